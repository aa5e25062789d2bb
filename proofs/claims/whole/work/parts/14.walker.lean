set_option maxHeartbeats 4000000 in
set_option maxRecDepth 100000 in
theorem cn_WA_init (l : Launch) (G : vv_G) (w : Nat)  :
    vv_C l zy_WA_init zc_WA_init 1 none { frames := 2, cells := 6, slots := 328, locals := 41 } G [.ref w] [ceO 6 w [.null, .null, .null, .null]] (fun v7 w7 => ∃ (qa : Nat) (ra : Nat) (sa : Nat) (sb : Nat) (fa : Nat) (fb : Nat), v7 = none ∧ w7 = [ceO 6 w [.ref qa, .ref ra, .ref sa, .ref fa], ceI G qa 160 (fun _ => 0), ceI G ra 160 (fun _ => 0), ceO 5 sa [.ref sb], ceJ G sb 3 (tw (fun _ _ => false)), ceO 5 fa [.ref fb], ceJ G fb 3 (tw (fun _ _ => false))]) := by
  refine vv_met (by decide +kernel) (Nat.le_of_ble_eq_true rfl) rfl ?_
  intro p e s m args below meth c A F
  refine vv_aload_n F zd_WA_init_0 rfl 0 rfl ?_
  refine vv_objInit F zd_WA_init_1 zw_56 zw_25 zw_26 (Nat.le_of_ble_eq_true rfl) (by decide) (by decide) ?_
  refine vv_aload_n F zd_WA_init_4 rfl 0 rfl ?_
  refine vv_sipush F zd_WA_init_5 (by decide) ?_
  refine vv_newaI (N := 160) F zd_WA_init_8 zw_43 rfl (by omega) (by decide) (by decide) (fun a1 => ?_)
  show vv_V _ _ _ _ _ _ _ _ _ _ _ _ _ _ _ [(0, .ref w)] [.ref a1, .ref w] [ceO 6 w [.null, .null, .null, .null], ceI G a1 160 (fun _ => 0)] 1 160
  refine vv_putF (v := .ref a1) (ws' := [ceO 6 w [.ref a1, .null, .null, .null], ceI G a1 160 (fun _ => 0)]) F zd_WA_init_10 zf_WA zt_WA_ok zn_WA 0 rfl rfl 0 (by decide) zw_59 rfl rfl rfl rfl (Nat.le_of_ble_eq_true rfl) rfl ?_
  refine vv_aload_n F zd_WA_init_13 rfl 0 rfl ?_
  refine vv_sipush F zd_WA_init_14 (by decide) ?_
  refine vv_newaI (N := 160) F zd_WA_init_17 zw_43 rfl (by omega) (by decide) (by decide) (fun a2 => ?_)
  show vv_V _ _ _ _ _ _ _ _ _ _ _ _ _ _ _ [(0, .ref w)] [.ref a2, .ref w] [ceO 6 w [.ref a1, .null, .null, .null], ceI G a1 160 (fun _ => 0), ceI G a2 160 (fun _ => 0)] 2 320
  refine vv_putF (v := .ref a2) (ws' := [ceO 6 w [.ref a1, .ref a2, .null, .null], ceI G a1 160 (fun _ => 0), ceI G a2 160 (fun _ => 0)]) F zd_WA_init_19 zf_WA zt_WA_ok zn_WA 0 rfl rfl 1 (by decide) zw_60 rfl rfl rfl rfl (Nat.le_of_ble_eq_true rfl) rfl ?_
  refine vv_aload_n F zd_WA_init_22 rfl 0 rfl ?_
  refine vv_new (ci := 5) (fs := [.null]) F zd_WA_init_23 zf_TA zt_TA_ok zw_57 zw_34 zw_3 rfl (fun j hj => by rcases (show j = 0 by omega) with rfl <;> rfl) (by decide) (by decide) (fun a3 => ?_)
  show vv_V _ _ _ _ _ _ _ _ _ _ _ _ _ _ _ [(0, .ref w)] [.ref a3, .ref w] [ceO 6 w [.ref a1, .ref a2, .null, .null], ceI G a1 160 (fun _ => 0), ceI G a2 160 (fun _ => 0), ceO 5 a3 [.null]] 3 321
  refine vv_dup F zd_WA_init_26 rfl ?_
  refine vv_iconst F zd_WA_init_27 ?_
  refine vv_callI (As := [.int (iI 1)]) (rest := [.ref a3, .ref w]) (wr := [ceO 6 w [.ref a1, .ref a2, .null, .null], ceI G a1 160 (fun _ => 0), ceI G a2 160 (fun _ => 0)]) F (cn_TA_init1 l G a3) zm_TA_init ⟨rfl, zw_36⟩ zw_58 zd_WA_init_28 ⟨by decide, by decide⟩ ⟨by decide, by decide⟩ [3] [0, 1, 2] rfl rfl ⟨rfl, rfl, by decide⟩ rfl rfl (Nat.le_of_ble_eq_true rfl) (fun v9 w9 hp9 => ?_)
  obtain ⟨b_4, rfl, rfl⟩ := hp9
  refine vv_thenE (ws' := [ceO 6 w [.ref a1, .ref a2, .null, .null], ceI G a1 160 (fun _ => 0), ceI G a2 160 (fun _ => 0), ceO 5 a3 [.ref b_4], ceJ G b_4 3 (tw (fun _ _ => false))]) (st' := [.ref a3, .ref w]) (kc' := 4) (ks' := 324) [0, 1, 2, 3, 4] rfl rfl rfl ?_
  refine vv_putF (v := .ref a3) (ws' := [ceO 6 w [.ref a1, .ref a2, .ref a3, .null], ceI G a1 160 (fun _ => 0), ceI G a2 160 (fun _ => 0), ceO 5 a3 [.ref b_4], ceJ G b_4 3 (tw (fun _ _ => false))]) F zd_WA_init_31 zf_WA zt_WA_ok zn_WA 0 rfl rfl 2 (by decide) zw_61 rfl rfl rfl rfl (Nat.le_of_ble_eq_true rfl) rfl ?_
  refine vv_aload_n F zd_WA_init_34 rfl 0 rfl ?_
  refine vv_new (ci := 5) (fs := [.null]) F zd_WA_init_35 zf_TA zt_TA_ok zw_57 zw_34 zw_3 rfl (fun j hj => by rcases (show j = 0 by omega) with rfl <;> rfl) (by decide) (by decide) (fun a5 => ?_)
  show vv_V _ _ _ _ _ _ _ _ _ _ _ _ _ _ _ [(0, .ref w)] [.ref a5, .ref w] [ceO 6 w [.ref a1, .ref a2, .ref a3, .null], ceI G a1 160 (fun _ => 0), ceI G a2 160 (fun _ => 0), ceO 5 a3 [.ref b_4], ceJ G b_4 3 (tw (fun _ _ => false)), ceO 5 a5 [.null]] 5 325
  refine vv_dup F zd_WA_init_38 rfl ?_
  refine vv_iconst F zd_WA_init_39 ?_
  refine vv_callI (As := [.int (iI 1)]) (rest := [.ref a5, .ref w]) (wr := [ceO 6 w [.ref a1, .ref a2, .ref a3, .null], ceI G a1 160 (fun _ => 0), ceI G a2 160 (fun _ => 0), ceO 5 a3 [.ref b_4], ceJ G b_4 3 (tw (fun _ _ => false))]) F (cn_TA_init1 l G a5) zm_TA_init ⟨rfl, zw_36⟩ zw_58 zd_WA_init_40 ⟨by decide, by decide⟩ ⟨by decide, by decide⟩ [5] [0, 1, 2, 3, 4] rfl rfl ⟨rfl, rfl, by decide⟩ rfl rfl (Nat.le_of_ble_eq_true rfl) (fun v9 w9 hp9 => ?_)
  obtain ⟨b_6, rfl, rfl⟩ := hp9
  refine vv_thenE (ws' := [ceO 6 w [.ref a1, .ref a2, .ref a3, .null], ceI G a1 160 (fun _ => 0), ceI G a2 160 (fun _ => 0), ceO 5 a3 [.ref b_4], ceJ G b_4 3 (tw (fun _ _ => false)), ceO 5 a5 [.ref b_6], ceJ G b_6 3 (tw (fun _ _ => false))]) (st' := [.ref a5, .ref w]) (kc' := 6) (ks' := 328) [0, 1, 2, 3, 4, 5, 6] rfl rfl rfl ?_
  refine vv_putF (v := .ref a5) (ws' := [ceO 6 w [.ref a1, .ref a2, .ref a3, .ref a5], ceI G a1 160 (fun _ => 0), ceI G a2 160 (fun _ => 0), ceO 5 a3 [.ref b_4], ceJ G b_4 3 (tw (fun _ _ => false)), ceO 5 a5 [.ref b_6], ceJ G b_6 3 (tw (fun _ _ => false))]) F zd_WA_init_43 zf_WA zt_WA_ok zn_WA 0 rfl rfl 3 (by decide) zw_62 rfl rfl rfl rfl (Nat.le_of_ble_eq_true rfl) rfl ?_
  exact vv_vret F zd_WA_init_46 ⟨_, _, _, _, _, _, rfl, rfl⟩

set_option maxHeartbeats 4000000 in
set_option maxRecDepth 100000 in
theorem lp_WA_far {p : Program} {l : Launch} {e : Env} {s : State} {m : MethodId} {args : Array Value} {below : List Frame} {meth : Method} {c : Code} {A : Nat → Prop} {Q : State → Prop} {G : vv_G} (F : vv_F p s m args meth c zc_WA_shortest "ClauseGraph$Walker" "shortest" (some .int) G A 8) (w : Nat) (qa : Nat) (ra : Nat) (sa : Nat) (sb : Nat) (fa : Nat) (fb : Nat) (q : Nat → Int) (r : Nat → Int) (S : Nat → Nat → Bool) (Fr : Nat → Nat → Bool) (ta : Nat) (tb : Nat) (B : Nat → Nat → Bool) (u : Int) (v : Int) (en : Int) (i : Int) (ne : Int) (hi : 0 ≤ i ∧ i < en) (he : en ≤ ne ∧ ne ≤ 160)
    (k : ∀ (h : Nat → Int), (en ≤ ne ∧ (∀ j : Nat, (j : Int) < en → h j = r j) ∧ ∀ j : Nat, en ≤ j → (j : Int) < ne → h j = r i.toNat + 1) → vv_V p l e { frames := 3, cells := 0, slots := 0, locals := 70 } s m args below meth c G A 8 Q 144 [(0, .ref w), (1, .ref ta), (2, .int (iI u)), (3, .int (iI v)), (4, .int (iI en)), (5, .int (iI i)), (6, .int (iI ne)), (7, .int (iI ne))] [] [ceO 6 w [.ref qa, .ref ra, .ref sa, .ref fa], ceI G qa 160 q, ceI G ra 160 h, ceO 5 sa [.ref sb], ceJ G sb 3 (tw S), ceO 5 fa [.ref fb], ceJ G fb 3 (tw Fr), ceO 5 ta [.ref tb], ceJ G tb 480 (tw B)] 0 0)  :
    ∀ (d : Nat) (pl : Int) (h : Nat → Int), pl + (d : Int) = ne → (en ≤ pl ∧ (∀ j : Nat, (j : Int) < en → h j = r j) ∧ ∀ j : Nat, en ≤ j → (j : Int) < pl → h j = r i.toNat + 1) → vv_V p l e { frames := 3, cells := 0, slots := 0, locals := 70 } s m args below meth c G A 8 Q 115 [(0, .ref w), (1, .ref ta), (2, .int (iI u)), (3, .int (iI v)), (4, .int (iI en)), (5, .int (iI i)), (6, .int (iI ne)), (7, .int (iI pl))] [] [ceO 6 w [.ref qa, .ref ra, .ref sa, .ref fa], ceI G qa 160 q, ceI G ra 160 h, ceO 5 sa [.ref sb], ceJ G sb 3 (tw S), ceO 5 fa [.ref fb], ceJ G fb 3 (tw Fr), ceO 5 ta [.ref tb], ceJ G tb 480 (tw B)] 0 0 := by
  intro d
  induction d with
  | zero =>
    intro pl h hd hI
    have hz : pl = ne := by omega
    subst hz
    refine vv_iload F zd_WA_shortest_115 7 rfl ?_
    refine vv_iload F zd_WA_shortest_117 6 rfl ?_
    refine vv_icmp_ge (tgt := 144) F zd_WA_shortest_119 rfl (by first | exact ⟨by omega, by omega⟩) (by first | exact ⟨by omega, by omega⟩) (fun _ => ?_) (fun h9 => absurd h9 (by omega))
    exact k h hI
  | succ d ih =>
    intro pl h hd hI
    refine vv_iload F zd_WA_shortest_115 7 rfl ?_
    refine vv_iload F zd_WA_shortest_117 6 rfl ?_
    refine vv_icmp_ge (tgt := 144) F zd_WA_shortest_119 rfl (by first | exact ⟨by omega, by omega⟩) (by first | exact ⟨by omega, by omega⟩) (fun h9 => absurd h9 (by omega)) (fun _ => ?_)
    refine vv_aload_n F zd_WA_shortest_122 rfl 0 rfl ?_
    refine vv_get F zd_WA_shortest_123 zf_WA 0 rfl rfl 1 (by decide) zw_60 rfl ?_
    refine vv_iload F zd_WA_shortest_126 7 rfl ?_
    refine vv_aload_n F zd_WA_shortest_128 rfl 0 rfl ?_
    refine vv_get F zd_WA_shortest_129 zf_WA 0 rfl rfl 1 (by decide) zw_60 rfl ?_
    refine vv_iload F zd_WA_shortest_132 5 rfl ?_
    refine vv_iald F zd_WA_shortest_134 2 rfl ⟨by omega, by omega⟩ (by decide) ?_
    refine vv_iconst F zd_WA_shortest_135 ?_
    refine vv_iadd F zd_WA_shortest_136 ?_
    refine vv_iast (x := (h i.toNat) + 1) (ws' := [ceO 6 w [.ref qa, .ref ra, .ref sa, .ref fa], ceI G qa 160 q, ceI G ra 160 (va_up h pl.toNat ((h i.toNat) + 1)), ceO 5 sa [.ref sb], ceJ G sb 3 (tw S), ceO 5 fa [.ref fb], ceJ G fb 3 (tw Fr), ceO 5 ta [.ref tb], ceJ G tb 480 (tw B)]) F zd_WA_shortest_137 2 rfl ⟨by omega, by omega⟩ (by decide) rfl ?_
    refine vv_iinc (j := 7) (lv' := [(0, .ref w), (1, .ref ta), (2, .int (iI u)), (3, .int (iI v)), (4, .int (iI en)), (5, .int (iI i)), (6, .int (iI ne)), (7, .int (iI (pl + 1)))]) F zd_WA_shortest_138 rfl (by decide) [1, 2, 3, 4, 5, 6, 7, 0] rfl ?_
    refine vv_goto (tgt := 115) F zd_WA_shortest_141 rfl ?_
    exact ih (pl + 1) (va_up h pl.toNat ((h i.toNat) + 1)) (by omega) (⟨by omega, fun j hj => by rw [va_up_ne _ _ (by omega)]; exact hI.2.1 j hj, fun j h1 h2 => by
      by_cases z : j = pl.toNat
      · rw [z, va_up_self, hI.2.1 i.toNat (by omega)]
      · rw [va_up_ne _ _ z]; exact hI.2.2 j h1 (by omega)⟩)

set_option maxHeartbeats 4000000 in
set_option maxRecDepth 100000 in
theorem lp_WA_sh {p : Program} {l : Launch} {e : Env} {s : State} {m : MethodId} {args : Array Value} {below : List Frame} {meth : Method} {c : Code} {A : Nat → Prop} {G : vv_G} (F : vv_F p s m args meth c zc_WA_shortest "ClauseGraph$Walker" "shortest" (some .int) G A 8) (w : Nat) (qa : Nat) (ra : Nat) (sa : Nat) (sb : Nat) (fa : Nat) (fb : Nat) (ta : Nat) (tb : Nat) (B : Nat → Nat → Bool) (u : Int) (v : Int) (wB : wfB B) (hu : 0 ≤ u ∧ u < 160) (hv : 0 ≤ v ∧ v < 160) :
    ∀ (d : Nat) (i en : Int) (q r : Nat → Int) (S Fr : Nat → Nat → Bool), i + (d : Int) = 160 → bfs B u.toNat v.toNat q r S i en → vv_V p l e { frames := 3, cells := 0, slots := 0, locals := 70 } s m args below meth c G A 8 (vv_R below args s { frames := 3, cells := 0, slots := 0, locals := 70 } G A (fun v7 w7 => ∃ (q2 : Nat → Int) (r2 : Nat → Int) (S2 : Nat → Nat → Bool) (F2 : Nat → Nat → Bool) (z : Int), (shB B u.toNat v.toNat z) ∧ v7 = some (.int (iI z)) ∧ w7 = [ceO 6 w [.ref qa, .ref ra, .ref sa, .ref fa], ceI G qa 160 q2, ceI G ra 160 r2, ceO 5 sa [.ref sb], ceJ G sb 3 (tw S2), ceO 5 fa [.ref fb], ceJ G fb 3 (tw F2), ceO 5 ta [.ref tb], ceJ G tb 480 (tw B)])) 36 [(0, .ref w), (1, .ref ta), (2, .int (iI u)), (3, .int (iI v)), (4, .int (iI en)), (5, .int (iI i))] [] [ceO 6 w [.ref qa, .ref ra, .ref sa, .ref fa], ceI G qa 160 q, ceI G ra 160 r, ceO 5 sa [.ref sb], ceJ G sb 3 (tw S), ceO 5 fa [.ref fb], ceJ G fb 3 (tw Fr), ceO 5 ta [.ref tb], ceJ G tb 480 (tw B)] 0 0 := by
  intro d
  induction d with
  | zero =>
    intro i en q r S Fr hd hI
    have h0 := hI.1
    refine vv_iload F zd_WA_shortest_36 5 rfl ?_
    refine vv_iload F zd_WA_shortest_38 4 rfl ?_
    refine vv_icmp_ge (tgt := 154) F zd_WA_shortest_40 rfl (by first | exact ⟨by omega, by omega⟩) (by first | exact ⟨by omega, by omega⟩) (fun _ => ?_) (fun h9 => absurd h9 (by omega))
    refine vv_iconst F zd_WA_shortest_154 ?_
    exact vv_iret F zd_WA_shortest_155 ⟨q, r, S, Fr, -1, bfs_none hI (by omega), rfl, rfl⟩
  | succ d ih =>
    intro i en q r S Fr hd hI
    have h0 := hI.1
    refine vv_iload F zd_WA_shortest_36 5 rfl ?_
    refine vv_iload F zd_WA_shortest_38 4 rfl ?_
    refine vv_icmp_ge (tgt := 154) F zd_WA_shortest_40 rfl (by first | exact ⟨by omega, by omega⟩) (by first | exact ⟨by omega, by omega⟩) (fun h1 => ?_) (fun h1 => ?_)
    · refine vv_iconst F zd_WA_shortest_154 ?_
      exact vv_iret F zd_WA_shortest_155 ⟨q, r, S, Fr, -1, bfs_none hI (by omega), rfl, rfl⟩
    · obtain ⟨p9, hp1, hp2, -, hp4, hp5, -⟩ := hI.2.2.1 i.toNat (by omega)
      have hro := bfs_room (Fr := Fr) (p := (q i.toNat).toNat) wB hI
      refine vv_iload F zd_WA_shortest_43 5 rfl ?_
      refine vv_sipush F zd_WA_shortest_45 (by decide) ?_
      refine vv_icmp_ge (tgt := 154) F zd_WA_shortest_48 rfl (by first | exact ⟨by omega, by omega⟩) (by decide) (fun h9 => absurd h9 (by omega)) (fun _ => ?_)
      refine vv_aload_n F zd_WA_shortest_51 rfl 1 rfl ?_
      refine vv_aload_n F zd_WA_shortest_52 rfl 0 rfl ?_
      refine vv_get F zd_WA_shortest_53 zf_WA 0 rfl rfl 0 (by decide) zw_59 rfl ?_
      refine vv_iload F zd_WA_shortest_56 5 rfl ?_
      refine vv_iald F zd_WA_shortest_58 1 rfl ⟨by omega, by omega⟩ (by decide) ?_
      refine vv_iload_n F zd_WA_shortest_59 rfl 3 rfl ?_
      refine vv_callV (q0 := 7) (As := [.int (iI (q i.toNat)), .int (iI v)]) (rest := []) (wr := [ceO 6 w [.ref qa, .ref ra, .ref sa, .ref fa], ceI G qa 160 q, ceI G ra 160 r, ceO 5 sa [.ref sb], ceJ G sb 3 (tw S), ceO 5 fa [.ref fb], ceJ G fb 3 (tw Fr)]) F (cn_TA_has l G ta tb 480 B (q i.toNat) v ⟨by omega, by omega⟩ ⟨by omega, by omega⟩ (by omega)) zm_TA_has ⟨zw_287, zw_288⟩ zw_399 zd_WA_shortest_60 ⟨by decide, by decide⟩ ⟨by decide, by decide⟩ [7, 8] [0, 1, 2, 3, 4, 5, 6] rfl rfl ⟨rfl, rfl, by decide⟩ rfl rfl rfl rfl (Nat.le_of_ble_eq_true rfl) (vv_then (ws' := [ceO 6 w [.ref qa, .ref ra, .ref sa, .ref fa], ceI G qa 160 q, ceI G ra 160 r, ceO 5 sa [.ref sb], ceJ G sb 3 (tw S), ceO 5 fa [.ref fb], ceJ G fb 3 (tw Fr), ceO 5 ta [.ref tb], ceJ G tb 480 (tw B)]) (st' := [.int (iI (bZ (B (q i.toNat).toNat v.toNat)))]) [0, 1, 2, 3, 4, 5, 6, 7, 8] rfl rfl rfl ?_)
      refine vv_if_eq (tgt := 76) F zd_WA_shortest_63 rfl (bZ_rg _) (fun h2 => ?_) (fun h2 => ?_)
      · have h2 : (B (q i.toNat).toNat v.toNat) = false := (bZ_0 _).mp h2
        refine vv_aload_n F zd_WA_shortest_76 rfl 0 rfl ?_
        refine vv_get F zd_WA_shortest_77 zf_WA 0 rfl rfl 3 (by decide) zw_62 rfl ?_
        refine vv_aload_n F zd_WA_shortest_80 rfl 1 rfl ?_
        refine vv_aload_n F zd_WA_shortest_81 rfl 0 rfl ?_
        refine vv_get F zd_WA_shortest_82 zf_WA 0 rfl rfl 0 (by decide) zw_59 rfl ?_
        refine vv_iload F zd_WA_shortest_85 5 rfl ?_
        refine vv_iald F zd_WA_shortest_87 1 rfl ⟨by omega, by omega⟩ (by decide) ?_
        refine vv_aload_n F zd_WA_shortest_88 rfl 0 rfl ?_
        refine vv_get F zd_WA_shortest_89 zf_WA 0 rfl rfl 2 (by decide) zw_61 rfl ?_
        refine vv_callV (q0 := 5) (As := [.ref ta, .int (iI (q i.toNat)), .ref sa]) (rest := []) (wr := [ceO 6 w [.ref qa, .ref ra, .ref sa, .ref fa], ceI G qa 160 q, ceI G ra 160 r]) F (cn_TA_takeUnseen l G fa fb Fr ta tb 480 B (q i.toNat) sa sb S ⟨by omega, by omega⟩ (by omega)) zm_TA_takeUnseen ⟨zw_401, zw_402⟩ zw_400 zd_WA_shortest_92 ⟨by decide, by decide⟩ ⟨by decide, by decide⟩ [5, 6, 7, 8, 3, 4] [0, 1, 2] rfl rfl ⟨rfl, rfl, by decide⟩ rfl rfl rfl rfl (Nat.le_of_ble_eq_true rfl) (vv_then (ws' := [ceO 6 w [.ref qa, .ref ra, .ref sa, .ref fa], ceI G qa 160 q, ceI G ra 160 r, ceO 5 sa [.ref sb], ceJ G sb 3 (tw (uS S B (q i.toNat).toNat 3)), ceO 5 fa [.ref fb], ceJ G fb 3 (tw (uF Fr B S (q i.toNat).toNat 3)), ceO 5 ta [.ref tb], ceJ G tb 480 (tw B)]) (st' := []) [0, 1, 2, 7, 8, 3, 4, 5, 6] rfl rfl rfl ?_)
        refine vv_aload_n F zd_WA_shortest_95 rfl 0 rfl ?_
        refine vv_get F zd_WA_shortest_96 zf_WA 0 rfl rfl 3 (by decide) zw_62 rfl ?_
        refine vv_iconst F zd_WA_shortest_99 ?_
        refine vv_aload_n F zd_WA_shortest_100 rfl 0 rfl ?_
        refine vv_get F zd_WA_shortest_101 zf_WA 0 rfl rfl 0 (by decide) zw_59 rfl ?_
        refine vv_iload F zd_WA_shortest_104 4 rfl ?_
        refine vv_callV (q0 := 5) (As := [.int (iI 0), .ref qa, .int (iI en)]) (rest := []) (wr := [ceO 6 w [.ref qa, .ref ra, .ref sa, .ref fa], ceI G ra 160 r, ceO 5 sa [.ref sb], ceJ G sb 3 (tw (uS S B (q i.toNat).toNat 3)), ceO 5 ta [.ref tb], ceJ G tb 480 (tw B)]) F (cn_TA_list l G fa fb 3 (uF Fr B S (q i.toNat).toNat 3) 0 qa q en ⟨by omega, by omega⟩ (by omega) ⟨by omega, hro⟩) zm_TA_list ⟨zw_270, zw_271⟩ zw_405 zd_WA_shortest_106 ⟨by decide, by decide⟩ ⟨by decide, by decide⟩ [5, 6, 1] [0, 2, 3, 4, 7, 8] rfl rfl ⟨rfl, rfl, by decide⟩ rfl rfl rfl rfl (Nat.le_of_ble_eq_true rfl) (fun v9 w9 hp9 => ?_)
        obtain ⟨f2_1, hf1_0, rfl, rfl⟩ := hp9
        refine vv_thenE (ws' := [ceO 6 w [.ref qa, .ref ra, .ref sa, .ref fa], ceI G qa 160 f2_1, ceI G ra 160 r, ceO 5 sa [.ref sb], ceJ G sb 3 (tw (uS S B (q i.toNat).toNat 3)), ceO 5 fa [.ref fb], ceJ G fb 3 (tw (uF Fr B S (q i.toNat).toNat 3)), ceO 5 ta [.ref tb], ceJ G tb 480 (tw B)]) (st' := [.int (iI (en + (cN ((uF Fr B S (q i.toNat).toNat 3) 0) 192 : Int)))]) (kc' := 0) (ks' := 0) [0, 8, 1, 2, 3, 6, 7, 4, 5] rfl rfl rfl ?_
        refine vv_istore (lv' := [(0, .ref w), (1, .ref ta), (2, .int (iI u)), (3, .int (iI v)), (4, .int (iI en)), (5, .int (iI i)), (6, .int (iI (en + (cN ((uF Fr B S (q i.toNat).toNat 3) 0) 192 : Int))))]) F zd_WA_shortest_109 (by decide) [1, 2, 3, 4, 5, 6, 0] rfl ?_
        refine vv_iload F zd_WA_shortest_111 4 rfl ?_
        refine vv_istore (lv' := [(0, .ref w), (1, .ref ta), (2, .int (iI u)), (3, .int (iI v)), (4, .int (iI en)), (5, .int (iI i)), (6, .int (iI (en + (cN ((uF Fr B S (q i.toNat).toNat 3) 0) 192 : Int)))), (7, .int (iI en))]) F zd_WA_shortest_113 (by decide) [1, 2, 3, 4, 5, 6, 7, 0] rfl ?_
        refine lp_WA_far F w qa ra sa sb fa fb f2_1 r (uS S B (q i.toNat).toNat 3) (uF Fr B S (q i.toNat).toNat 3) ta tb B u v en i (en + (cN ((uF Fr B S (q i.toNat).toNat 3) 0) 192 : Int)) ⟨by omega, by omega⟩ ⟨by omega, by omega⟩ (fun h9 hJ => ?_) (cN ((uF Fr B S (q i.toNat).toNat 3) 0) 192) en r (by omega) ⟨by omega, fun _ _ => rfl, fun j h1 h2 => by omega⟩
        refine vv_iload F zd_WA_shortest_144 6 rfl ?_
        refine vv_istore (lv' := [(0, .ref w), (1, .ref ta), (2, .int (iI u)), (3, .int (iI v)), (4, .int (iI (en + (cN ((uF Fr B S (q i.toNat).toNat 3) 0) 192 : Int)))), (5, .int (iI i)), (6, .int (iI (en + (cN ((uF Fr B S (q i.toNat).toNat 3) 0) 192 : Int)))), (7, .int (iI (en + (cN ((uF Fr B S (q i.toNat).toNat 3) 0) 192 : Int))))]) F zd_WA_shortest_146 (by decide) [1, 2, 3, 4, 0, 5, 6, 7] rfl ?_
        refine vv_iinc (j := 5) (lv' := [(0, .ref w), (1, .ref ta), (2, .int (iI u)), (3, .int (iI v)), (4, .int (iI (en + (cN ((uF Fr B S (q i.toNat).toNat 3) 0) 192 : Int)))), (5, .int (iI (i + 1))), (6, .int (iI (en + (cN ((uF Fr B S (q i.toNat).toNat 3) 0) 192 : Int)))), (7, .int (iI (en + (cN ((uF Fr B S (q i.toNat).toNat 3) 0) 192 : Int))))]) F zd_WA_shortest_148 rfl (by decide) [1, 2, 3, 4, 5, 0, 6, 7] rfl ?_
        refine vv_goto (tgt := 36) F zd_WA_shortest_151 rfl ?_
        refine vv_locals (lv' := [(0, .ref w), (1, .ref ta), (2, .int (iI u)), (3, .int (iI v)), (4, .int (iI (en + (cN ((uF Fr B S (q i.toNat).toNat 3) 0) 192 : Int)))), (5, .int (iI (i + 1)))]) [0, 1, 2, 3, 4, 5] rfl ?_
        exact ih (i + 1) (en + (cN ((uF Fr B S (q i.toNat).toNat 3) 0) 192 : Int)) f2_1 h9 (uS S B (q i.toNat).toNat 3) (uF Fr B S (q i.toNat).toNat 3) (by omega) (bfs_step wB hI (by omega) h2 hf1_0 hJ.2.1 hJ.2.2)
      · have h2 : (B (q i.toNat).toNat v.toNat) = true := by cases hb9 : (B (q i.toNat).toNat v.toNat) with | true => rfl | false => exact absurd ((bZ_0 _).mpr hb9) h2
        refine vv_aload_n F zd_WA_shortest_66 rfl 0 rfl ?_
        refine vv_get F zd_WA_shortest_67 zf_WA 0 rfl rfl 1 (by decide) zw_60 rfl ?_
        refine vv_iload F zd_WA_shortest_70 5 rfl ?_
        refine vv_iald F zd_WA_shortest_72 2 rfl ⟨by omega, by omega⟩ (by decide) ?_
        refine vv_iconst F zd_WA_shortest_73 ?_
        refine vv_iadd F zd_WA_shortest_74 ?_
        exact vv_iret F zd_WA_shortest_75 ⟨q, r, S, Fr, _, bfs_found hI (by omega) h2, rfl, rfl⟩

set_option maxHeartbeats 4000000 in
set_option maxRecDepth 100000 in
theorem cn_WA_shortest (l : Launch) (G : vv_G) (w : Nat) (qa : Nat) (ra : Nat) (sa : Nat) (sb : Nat) (fa : Nat) (fb : Nat) (q : Nat → Int) (r : Nat → Int) (S : Nat → Nat → Bool) (Fr : Nat → Nat → Bool) (ta : Nat) (tb : Nat) (B : Nat → Nat → Bool) (u : Int) (v : Int) (wB : wfB B) (hu : 0 ≤ u ∧ u < 160) (hv : 0 ≤ v ∧ v < 160) :
    vv_C l zy_WA_shortest zc_WA_shortest 8 (some .int) { frames := 3, cells := 0, slots := 0, locals := 70 } G [.ref w, .ref ta, .int (iI u), .int (iI v)] [ceO 6 w [.ref qa, .ref ra, .ref sa, .ref fa], ceI G qa 160 q, ceI G ra 160 r, ceO 5 sa [.ref sb], ceJ G sb 3 (tw S), ceO 5 fa [.ref fb], ceJ G fb 3 (tw Fr), ceO 5 ta [.ref tb], ceJ G tb 480 (tw B)] (fun v7 w7 => ∃ (q2 : Nat → Int) (r2 : Nat → Int) (S2 : Nat → Nat → Bool) (F2 : Nat → Nat → Bool) (z : Int), (shB B u.toNat v.toNat z) ∧ v7 = some (.int (iI z)) ∧ w7 = [ceO 6 w [.ref qa, .ref ra, .ref sa, .ref fa], ceI G qa 160 q2, ceI G ra 160 r2, ceO 5 sa [.ref sb], ceJ G sb 3 (tw S2), ceO 5 fa [.ref fb], ceJ G fb 3 (tw F2), ceO 5 ta [.ref tb], ceJ G tb 480 (tw B)]) := by
  refine vv_met (by decide +kernel) (Nat.le_of_ble_eq_true rfl) rfl ?_
  intro p e s m args below meth c A F
  refine vv_aload_n F zd_WA_shortest_0 rfl 0 rfl ?_
  refine vv_get F zd_WA_shortest_1 zf_WA 0 rfl rfl 2 (by decide) zw_61 rfl ?_
  refine vv_callV (q0 := 3) (As := []) (rest := []) (wr := [ceO 6 w [.ref qa, .ref ra, .ref sa, .ref fa], ceI G qa 160 q, ceI G ra 160 r, ceO 5 fa [.ref fb], ceJ G fb 3 (tw Fr), ceO 5 ta [.ref tb], ceJ G tb 480 (tw B)]) F (cn_TA_wipe l G sa sb 3 S (by omega)) zm_TA_wipe ⟨zw_97, zw_98⟩ zw_397 zd_WA_shortest_4 ⟨by decide, by decide⟩ ⟨by decide, by decide⟩ [3, 4] [0, 1, 2, 5, 6, 7, 8] rfl rfl ⟨rfl, rfl, by decide⟩ rfl rfl rfl rfl (Nat.le_of_ble_eq_true rfl) (vv_then (ws' := [ceO 6 w [.ref qa, .ref ra, .ref sa, .ref fa], ceI G qa 160 q, ceI G ra 160 r, ceO 5 sa [.ref sb], ceJ G sb 3 (tw (fun _ _ => false)), ceO 5 fa [.ref fb], ceJ G fb 3 (tw Fr), ceO 5 ta [.ref tb], ceJ G tb 480 (tw B)]) (st' := []) [0, 1, 2, 7, 8, 3, 4, 5, 6] rfl rfl rfl ?_)
  refine vv_aload_n F zd_WA_shortest_7 rfl 0 rfl ?_
  refine vv_get F zd_WA_shortest_8 zf_WA 0 rfl rfl 2 (by decide) zw_61 rfl ?_
  refine vv_iconst F zd_WA_shortest_11 ?_
  refine vv_iload_n F zd_WA_shortest_12 rfl 2 rfl ?_
  refine vv_callV (q0 := 3) (As := [.int (iI 0), .int (iI u)]) (rest := []) (wr := [ceO 6 w [.ref qa, .ref ra, .ref sa, .ref fa], ceI G qa 160 q, ceI G ra 160 r, ceO 5 fa [.ref fb], ceJ G fb 3 (tw Fr), ceO 5 ta [.ref tb], ceJ G tb 480 (tw B)]) F (cn_TA_put l G sa sb 3 (fun _ _ => false) 0 u ⟨by omega, by omega⟩ ⟨by omega, by omega⟩ (by omega)) zm_TA_put ⟨zw_109, zw_110⟩ zw_398 zd_WA_shortest_13 ⟨by decide, by decide⟩ ⟨by decide, by decide⟩ [3, 4] [0, 1, 2, 5, 6, 7, 8] rfl rfl ⟨rfl, rfl, by decide⟩ rfl rfl rfl rfl (Nat.le_of_ble_eq_true rfl) (vv_then (ws' := [ceO 6 w [.ref qa, .ref ra, .ref sa, .ref fa], ceI G qa 160 q, ceI G ra 160 r, ceO 5 sa [.ref sb], ceJ G sb 3 (tw (bP (fun _ _ => false) 0 u.toNat true)), ceO 5 fa [.ref fb], ceJ G fb 3 (tw Fr), ceO 5 ta [.ref tb], ceJ G tb 480 (tw B)]) (st' := []) [0, 1, 2, 7, 8, 3, 4, 5, 6] rfl rfl rfl ?_)
  refine vv_aload_n F zd_WA_shortest_16 rfl 0 rfl ?_
  refine vv_get F zd_WA_shortest_17 zf_WA 0 rfl rfl 0 (by decide) zw_59 rfl ?_
  refine vv_iconst F zd_WA_shortest_20 ?_
  refine vv_iload_n F zd_WA_shortest_21 rfl 2 rfl ?_
  refine vv_iast (x := u) (ws' := [ceO 6 w [.ref qa, .ref ra, .ref sa, .ref fa], ceI G qa 160 (va_up q 0 u), ceI G ra 160 r, ceO 5 sa [.ref sb], ceJ G sb 3 (tw (bP (fun _ _ => false) 0 u.toNat true)), ceO 5 fa [.ref fb], ceJ G fb 3 (tw Fr), ceO 5 ta [.ref tb], ceJ G tb 480 (tw B)]) F zd_WA_shortest_22 1 rfl ⟨by omega, by omega⟩ (by decide) rfl ?_
  refine vv_aload_n F zd_WA_shortest_23 rfl 0 rfl ?_
  refine vv_get F zd_WA_shortest_24 zf_WA 0 rfl rfl 1 (by decide) zw_60 rfl ?_
  refine vv_iconst F zd_WA_shortest_27 ?_
  refine vv_iconst F zd_WA_shortest_28 ?_
  refine vv_iast (x := 0) (ws' := [ceO 6 w [.ref qa, .ref ra, .ref sa, .ref fa], ceI G qa 160 (va_up q 0 u), ceI G ra 160 (va_up r 0 0), ceO 5 sa [.ref sb], ceJ G sb 3 (tw (bP (fun _ _ => false) 0 u.toNat true)), ceO 5 fa [.ref fb], ceJ G fb 3 (tw Fr), ceO 5 ta [.ref tb], ceJ G tb 480 (tw B)]) F zd_WA_shortest_29 2 rfl ⟨by omega, by omega⟩ (by decide) rfl ?_
  refine vv_iconst F zd_WA_shortest_30 ?_
  refine vv_istore (lv' := [(0, .ref w), (1, .ref ta), (2, .int (iI u)), (3, .int (iI v)), (4, .int (iI 1))]) F zd_WA_shortest_31 (by decide) [1, 2, 3, 4, 0] rfl ?_
  refine vv_iconst F zd_WA_shortest_33 ?_
  refine vv_istore (lv' := [(0, .ref w), (1, .ref ta), (2, .int (iI u)), (3, .int (iI v)), (4, .int (iI 1)), (5, .int (iI 0))]) F zd_WA_shortest_34 (by decide) [1, 2, 3, 4, 5, 0] rfl ?_
  have hub : ((u.toNat : Nat) : Int) = u := by omega
  exact lp_WA_sh F w qa ra sa sb fa fb ta tb B u v wB hu hv 160 0 1 (va_up q 0 u) (va_up r 0 0) (bP (fun _ _ => false) 0 u.toNat true) Fr (by omega) (by have h9 := bfs_0 (B := B) (v := v.toNat) (q := q) (r := r) (u := u.toNat) (by omega); rw [hub] at h9; exact h9)
