set_option maxHeartbeats 4000000 in
set_option maxRecDepth 100000 in
theorem cn_NE_begin (l : Launch) (G : vv_G) (x : Nat) (w : Nat) (go : Nat) (ta : Nat) (o : Nat) (tb : Nat) (B : Nat → Nat → Bool) (ah : Nat) (ab : Nat) (bh : Nat) (bb : Nat) (so : Nat) (ac : Int) (rk : Bool) (n : Int) (ch : Int) (H : Nat → Nat → Bool) (K : Nat → Nat → Bool) (f : Nat → Int) (n2 : Int) (hn : 0 ≤ n2 ∧ n2 ≤ 160) :
    vv_D l zy_NE_begin zc_NE_begin 2 none { frames := 3, cells := 0, slots := 0, locals := 66 } G [.ref x, .int (iI n2)] [ceO 2 x [.ref w, .ref go, .int (iI ac), .int (iI (bZ rk)), .ref ta, .ref o, .int (iI n), .int (iI ch)], ceO 5 ta [.ref tb], ceJ G tb 480 (tw B), ceO 4 o [.ref ah, .ref bh, .ref so], ceO 5 ah [.ref ab], ceJ G ab 480 (tw H), ceO 5 bh [.ref bb], ceJ G bb 480 (tw K), ceI G so 160 f] none [ceO 2 x [.ref w, .ref go, .int (iI 0), .int (iI (bZ true)), .ref ta, .ref o, .int (iI n2), .int (iI (ch + 1))], ceO 5 ta [.ref tb], ceJ G tb 480 (tw (fun _ _ => false)), ceO 4 o [.ref ah, .ref bh, .ref so], ceO 5 ah [.ref ab], ceJ G ab 480 (tw (idB n2.toNat)), ceO 5 bh [.ref bb], ceJ G bb 480 (tw (idB n2.toNat)), ceI G so 160 f] := by
  refine vv_met (by decide +kernel) (Nat.le_of_ble_eq_true rfl) rfl ?_
  intro p e s m args below meth c A F
  refine vv_aload_n F zd_NE_begin_0 rfl 0 rfl ?_
  refine vv_iload_n F zd_NE_begin_1 rfl 1 rfl ?_
  refine vv_put (v := .int (iI n2)) (ws' := [ceO 2 x [.ref w, .ref go, .int (iI ac), .int (iI (bZ rk)), .ref ta, .ref o, .int (iI n2), .int (iI ch)], ceO 5 ta [.ref tb], ceJ G tb 480 (tw B), ceO 4 o [.ref ah, .ref bh, .ref so], ceO 5 ah [.ref ab], ceJ G ab 480 (tw H), ceO 5 bh [.ref bb], ceJ G bb 480 (tw K), ceI G so 160 f]) F zd_NE_begin_2 zf_NE zt_NE_ok zn_NE 0 rfl rfl 6 (by decide) zw_123 rfl rfl rfl (Nat.le_of_ble_eq_true rfl) rfl ?_
  refine vv_aload_n F zd_NE_begin_5 rfl 0 rfl ?_
  refine vv_get F zd_NE_begin_6 zf_NE 0 rfl rfl 4 (by decide) zw_119 rfl ?_
  refine vv_callV (q0 := 1) (As := []) (rest := []) (wr := [ceO 2 x [.ref w, .ref go, .int (iI ac), .int (iI (bZ rk)), .ref ta, .ref o, .int (iI n2), .int (iI ch)], ceO 4 o [.ref ah, .ref bh, .ref so], ceO 5 ah [.ref ab], ceJ G ab 480 (tw H), ceO 5 bh [.ref bb], ceJ G bb 480 (tw K), ceI G so 160 f]) F (cn_TA_wipe l G ta tb 480 B (by omega)) zm_TA_wipe ⟨zw_97, zw_98⟩ zw_96 zd_NE_begin_9 ⟨by decide, by decide⟩ ⟨by decide, by decide⟩ [1, 2] [0, 3, 4, 5, 6, 7, 8] rfl rfl ⟨rfl, rfl, by decide⟩ rfl rfl rfl rfl (Nat.le_of_ble_eq_true rfl) (vv_then (ws' := [ceO 2 x [.ref w, .ref go, .int (iI ac), .int (iI (bZ rk)), .ref ta, .ref o, .int (iI n2), .int (iI ch)], ceO 5 ta [.ref tb], ceJ G tb 480 (tw (fun _ _ => false)), ceO 4 o [.ref ah, .ref bh, .ref so], ceO 5 ah [.ref ab], ceJ G ab 480 (tw H), ceO 5 bh [.ref bb], ceJ G bb 480 (tw K), ceI G so 160 f]) (st' := []) [0, 7, 8, 1, 2, 3, 4, 5, 6] rfl rfl rfl ?_)
  refine vv_aload_n F zd_NE_begin_12 rfl 0 rfl ?_
  refine vv_iconst F zd_NE_begin_13 ?_
  refine vv_put (v := .int (iI 0)) (ws' := [ceO 2 x [.ref w, .ref go, .int (iI 0), .int (iI (bZ rk)), .ref ta, .ref o, .int (iI n2), .int (iI ch)], ceO 5 ta [.ref tb], ceJ G tb 480 (tw (fun _ _ => false)), ceO 4 o [.ref ah, .ref bh, .ref so], ceO 5 ah [.ref ab], ceJ G ab 480 (tw H), ceO 5 bh [.ref bb], ceJ G bb 480 (tw K), ceI G so 160 f]) F zd_NE_begin_14 zf_NE zt_NE_ok zn_NE 0 rfl rfl 2 (by decide) zw_117 rfl rfl rfl (Nat.le_of_ble_eq_true rfl) rfl ?_
  refine vv_aload_n F zd_NE_begin_17 rfl 0 rfl ?_
  refine vv_get F zd_NE_begin_18 zf_NE 0 rfl rfl 5 (by decide) zw_121 rfl ?_
  refine vv_iload_n F zd_NE_begin_21 rfl 1 rfl ?_
  refine vv_callV (q0 := 3) (As := [.int (iI n2)]) (rest := []) (wr := [ceO 2 x [.ref w, .ref go, .int (iI 0), .int (iI (bZ rk)), .ref ta, .ref o, .int (iI n2), .int (iI ch)], ceO 5 ta [.ref tb], ceJ G tb 480 (tw (fun _ _ => false))]) F (cn_RE_begin l G o ah ab bh bb so H K f n2 hn) zm_RE_begin ⟨zw_104, zw_105⟩ zw_103 zd_NE_begin_22 ⟨by decide, by decide⟩ ⟨by decide, by decide⟩ [3, 4, 5, 6, 7, 8] [0, 1, 2] rfl rfl ⟨rfl, rfl, by decide⟩ rfl rfl rfl rfl (Nat.le_of_ble_eq_true rfl) (vv_then (ws' := [ceO 2 x [.ref w, .ref go, .int (iI 0), .int (iI (bZ rk)), .ref ta, .ref o, .int (iI n2), .int (iI ch)], ceO 5 ta [.ref tb], ceJ G tb 480 (tw (fun _ _ => false)), ceO 4 o [.ref ah, .ref bh, .ref so], ceO 5 ah [.ref ab], ceJ G ab 480 (tw (idB n2.toNat)), ceO 5 bh [.ref bb], ceJ G bb 480 (tw (idB n2.toNat)), ceI G so 160 f]) (st' := []) [0, 1, 2, 3, 4, 5, 6, 7, 8] rfl rfl rfl ?_)
  refine vv_aload_n F zd_NE_begin_25 rfl 0 rfl ?_
  refine vv_iconst F zd_NE_begin_26 ?_
  rw [show (iI 1) = iI (bZ true) from rfl]
  refine vv_put (v := .int (iI (bZ true))) (ws' := [ceO 2 x [.ref w, .ref go, .int (iI 0), .int (iI (bZ true)), .ref ta, .ref o, .int (iI n2), .int (iI ch)], ceO 5 ta [.ref tb], ceJ G tb 480 (tw (fun _ _ => false)), ceO 4 o [.ref ah, .ref bh, .ref so], ceO 5 ah [.ref ab], ceJ G ab 480 (tw (idB n2.toNat)), ceO 5 bh [.ref bb], ceJ G bb 480 (tw (idB n2.toNat)), ceI G so 160 f]) F zd_NE_begin_27 zf_NE zt_NE_ok zn_NE 0 rfl rfl 3 (by decide) zw_118 rfl (nb_bZ true) (fb_bZ true) (Nat.le_of_ble_eq_true rfl) rfl ?_
  refine vv_aload_n F zd_NE_begin_30 rfl 0 rfl ?_
  refine vv_dup F zd_NE_begin_31 rfl ?_
  refine vv_get F zd_NE_begin_32 zf_NE 0 rfl rfl 7 (by decide) zw_127 rfl ?_
  refine vv_iconst F zd_NE_begin_35 ?_
  refine vv_iadd F zd_NE_begin_36 ?_
  refine vv_put (v := .int (iI (ch + 1))) (ws' := [ceO 2 x [.ref w, .ref go, .int (iI 0), .int (iI (bZ true)), .ref ta, .ref o, .int (iI n2), .int (iI (ch + 1))], ceO 5 ta [.ref tb], ceJ G tb 480 (tw (fun _ _ => false)), ceO 4 o [.ref ah, .ref bh, .ref so], ceO 5 ah [.ref ab], ceJ G ab 480 (tw (idB n2.toNat)), ceO 5 bh [.ref bb], ceJ G bb 480 (tw (idB n2.toNat)), ceI G so 160 f]) F zd_NE_begin_37 zf_NE zt_NE_ok zn_NE 0 rfl rfl 7 (by decide) zw_127 rfl rfl rfl (Nat.le_of_ble_eq_true rfl) rfl ?_
  exact vv_vret F zd_NE_begin_40 ⟨rfl, rfl⟩

set_option maxHeartbeats 4000000 in
set_option maxRecDepth 100000 in
theorem cn_NE_add (l : Launch) (G : vv_G) (x : Nat) (w : Nat) (go : Nat) (ta : Nat) (o : Nat) (tb : Nat) (B : Nat → Nat → Bool) (ah : Nat) (ab : Nat) (bh : Nat) (bb : Nat) (so : Nat) (ac : Int) (rk : Bool) (n : Int) (ch : Int) (H : Nat → Nat → Bool) (K : Nat → Nat → Bool) (f : Nat → Int) (u : Int) (v : Int) (wH : wfB H) (wK : wfB K) (hu : 0 ≤ u ∧ u < 160) (hv : 0 ≤ v ∧ v < 160) (ha : 0 ≤ ac ∧ ac ≤ 1000) :
    vv_C l zy_NE_add zc_NE_add 3 (some .int) { frames := 4, cells := 0, slots := 0, locals := 94 } G [.ref x, .int (iI u), .int (iI v)] [ceO 2 x [.ref w, .ref go, .int (iI ac), .int (iI (bZ rk)), .ref ta, .ref o, .int (iI n), .int (iI ch)], ceO 5 ta [.ref tb], ceJ G tb 480 (tw B), ceO 4 o [.ref ah, .ref bh, .ref so], ceO 5 ah [.ref ab], ceJ G ab 480 (tw H), ceO 5 bh [.ref bb], ceJ G bb 480 (tw K), ceI G so 160 f] (fun v7 w7 => ∃ (B2 : Nat → Nat → Bool) (ac2 : Int) (ch2 : Int) (H2 : Nat → Nat → Bool) (K2 : Nat → Nat → Bool) (f2 : Nat → Int) (z : Int), (nadd B ac rk H K ch u.toNat v.toNat B2 ac2 ch2 H2 K2 z) ∧ v7 = some (.int (iI z)) ∧ w7 = [ceO 2 x [.ref w, .ref go, .int (iI ac2), .int (iI (bZ rk)), .ref ta, .ref o, .int (iI n), .int (iI ch2)], ceO 5 ta [.ref tb], ceJ G tb 480 (tw B2), ceO 4 o [.ref ah, .ref bh, .ref so], ceO 5 ah [.ref ab], ceJ G ab 480 (tw H2), ceO 5 bh [.ref bb], ceJ G bb 480 (tw K2), ceI G so 160 f2]) := by
  refine vv_met (by decide +kernel) (Nat.le_of_ble_eq_true rfl) rfl ?_
  intro p e s m args below meth c A F
  refine vv_aload_n F zd_NE_add_0 rfl 0 rfl ?_
  refine vv_get F zd_NE_add_1 zf_NE 0 rfl rfl 4 (by decide) zw_119 rfl ?_
  refine vv_iload_n F zd_NE_add_4 rfl 1 rfl ?_
  refine vv_iload_n F zd_NE_add_5 rfl 2 rfl ?_
  refine vv_callV (q0 := 1) (As := [.int (iI u), .int (iI v)]) (rest := []) (wr := [ceO 2 x [.ref w, .ref go, .int (iI ac), .int (iI (bZ rk)), .ref ta, .ref o, .int (iI n), .int (iI ch)], ceO 4 o [.ref ah, .ref bh, .ref so], ceO 5 ah [.ref ab], ceJ G ab 480 (tw H), ceO 5 bh [.ref bb], ceJ G bb 480 (tw K), ceI G so 160 f]) F (cn_TA_has l G ta tb 480 B u v ⟨by omega, by omega⟩ ⟨by omega, by omega⟩ (by omega)) zm_TA_has ⟨zw_287, zw_288⟩ zw_519 zd_NE_add_6 ⟨by decide, by decide⟩ ⟨by decide, by decide⟩ [1, 2] [0, 3, 4, 5, 6, 7, 8] rfl rfl ⟨rfl, rfl, by decide⟩ rfl rfl rfl rfl (Nat.le_of_ble_eq_true rfl) (vv_then (ws' := [ceO 2 x [.ref w, .ref go, .int (iI ac), .int (iI (bZ rk)), .ref ta, .ref o, .int (iI n), .int (iI ch)], ceO 5 ta [.ref tb], ceJ G tb 480 (tw B), ceO 4 o [.ref ah, .ref bh, .ref so], ceO 5 ah [.ref ab], ceJ G ab 480 (tw H), ceO 5 bh [.ref bb], ceJ G bb 480 (tw K), ceI G so 160 f]) (st' := [.int (iI (bZ (B u.toNat v.toNat)))]) [0, 7, 8, 1, 2, 3, 4, 5, 6] rfl rfl rfl ?_)
  refine vv_if_ne (tgt := 22) F zd_NE_add_9 rfl (bZ_rg _) (fun h1 => ?_) (fun h1 => ?_)
  · have h1 : (B u.toNat v.toNat) = true := by cases hb9 : (B u.toNat v.toNat) with | true => rfl | false => exact absurd ((bZ_0 _).mpr hb9) h1
    refine vv_iconst F zd_NE_add_22 ?_
    exact vv_iret F zd_NE_add_23 ⟨B, ac, ch, H, K, f, -1, Or.inl ⟨rfl, Or.inl h1, rfl, rfl, rfl, rfl, rfl⟩, rfl, rfl⟩
  · have h1 : (B u.toNat v.toNat) = false := (bZ_0 _).mp h1
    refine vv_aload_n F zd_NE_add_12 rfl 0 rfl ?_
    refine vv_get F zd_NE_add_13 zf_NE 0 rfl rfl 2 (by decide) zw_117 rfl ?_
    refine vv_sipush F zd_NE_add_16 (by decide) ?_
    refine vv_icmp_lt (tgt := 24) F zd_NE_add_19 rfl (by first | exact ⟨by omega, by omega⟩) (by decide) (fun h2 => ?_) (fun h2 => ?_)
    · refine vv_aload_n F zd_NE_add_24 rfl 0 rfl ?_
      refine vv_get F zd_NE_add_25 zf_NE 0 rfl rfl 4 (by decide) zw_119 rfl ?_
      refine vv_iload_n F zd_NE_add_28 rfl 1 rfl ?_
      refine vv_iload_n F zd_NE_add_29 rfl 2 rfl ?_
      refine vv_callV (q0 := 1) (As := [.int (iI u), .int (iI v)]) (rest := []) (wr := [ceO 2 x [.ref w, .ref go, .int (iI ac), .int (iI (bZ rk)), .ref ta, .ref o, .int (iI n), .int (iI ch)], ceO 4 o [.ref ah, .ref bh, .ref so], ceO 5 ah [.ref ab], ceJ G ab 480 (tw H), ceO 5 bh [.ref bb], ceJ G bb 480 (tw K), ceI G so 160 f]) F (cn_TA_put l G ta tb 480 B u v ⟨by omega, by omega⟩ ⟨by omega, by omega⟩ (by omega)) zm_TA_put ⟨zw_109, zw_110⟩ zw_520 zd_NE_add_30 ⟨by decide, by decide⟩ ⟨by decide, by decide⟩ [1, 2] [0, 3, 4, 5, 6, 7, 8] rfl rfl ⟨rfl, rfl, by decide⟩ rfl rfl rfl rfl (Nat.le_of_ble_eq_true rfl) (vv_then (ws' := [ceO 2 x [.ref w, .ref go, .int (iI ac), .int (iI (bZ rk)), .ref ta, .ref o, .int (iI n), .int (iI ch)], ceO 5 ta [.ref tb], ceJ G tb 480 (tw (bP B u.toNat v.toNat true)), ceO 4 o [.ref ah, .ref bh, .ref so], ceO 5 ah [.ref ab], ceJ G ab 480 (tw H), ceO 5 bh [.ref bb], ceJ G bb 480 (tw K), ceI G so 160 f]) (st' := []) [0, 7, 8, 1, 2, 3, 4, 5, 6] rfl rfl rfl ?_)
      refine vv_aload_n F zd_NE_add_33 rfl 0 rfl ?_
      refine vv_dup F zd_NE_add_34 rfl ?_
      refine vv_get F zd_NE_add_35 zf_NE 0 rfl rfl 2 (by decide) zw_117 rfl ?_
      refine vv_iconst F zd_NE_add_38 ?_
      refine vv_iadd F zd_NE_add_39 ?_
      refine vv_put (v := .int (iI (ac + 1))) (ws' := [ceO 2 x [.ref w, .ref go, .int (iI (ac + 1)), .int (iI (bZ rk)), .ref ta, .ref o, .int (iI n), .int (iI ch)], ceO 5 ta [.ref tb], ceJ G tb 480 (tw (bP B u.toNat v.toNat true)), ceO 4 o [.ref ah, .ref bh, .ref so], ceO 5 ah [.ref ab], ceJ G ab 480 (tw H), ceO 5 bh [.ref bb], ceJ G bb 480 (tw K), ceI G so 160 f]) F zd_NE_add_40 zf_NE zt_NE_ok zn_NE 0 rfl rfl 2 (by decide) zw_117 rfl rfl rfl (Nat.le_of_ble_eq_true rfl) rfl ?_
      refine vv_aload_n F zd_NE_add_43 rfl 0 rfl ?_
      refine vv_get F zd_NE_add_44 zf_NE 0 rfl rfl 3 (by decide) zw_118 rfl ?_
      refine vv_if_eq (tgt := 59) F zd_NE_add_47 rfl (bZ_rg _) (fun h3 => ?_) (fun h3 => ?_)
      · have h3 : rk = false := (bZ_0 _).mp h3
        refine vv_aload_n F zd_NE_add_59 rfl 0 rfl ?_
        refine vv_dup F zd_NE_add_60 rfl ?_
        refine vv_get F zd_NE_add_61 zf_NE 0 rfl rfl 7 (by decide) zw_127 rfl ?_
        refine vv_iconst F zd_NE_add_64 ?_
        refine vv_iadd F zd_NE_add_65 ?_
        refine vv_put (v := .int (iI (ch + 1))) (ws' := [ceO 2 x [.ref w, .ref go, .int (iI (ac + 1)), .int (iI (bZ rk)), .ref ta, .ref o, .int (iI n), .int (iI (ch + 1))], ceO 5 ta [.ref tb], ceJ G tb 480 (tw (bP B u.toNat v.toNat true)), ceO 4 o [.ref ah, .ref bh, .ref so], ceO 5 ah [.ref ab], ceJ G ab 480 (tw H), ceO 5 bh [.ref bb], ceJ G bb 480 (tw K), ceI G so 160 f]) F zd_NE_add_66 zf_NE zt_NE_ok zn_NE 0 rfl rfl 7 (by decide) zw_127 rfl rfl rfl (Nat.le_of_ble_eq_true rfl) rfl ?_
        refine vv_aload_n F zd_NE_add_69 rfl 0 rfl ?_
        refine vv_get F zd_NE_add_70 zf_NE 0 rfl rfl 2 (by decide) zw_117 rfl ?_
        exact vv_iret F zd_NE_add_73 ⟨_, _, _, H, K, f, _, Or.inr ⟨rfl, h1, by omega, rfl, rfl, rfl, by rw [h3]; rfl, by rw [h3]; rfl⟩, rfl, rfl⟩
      · have h3 : rk = true := by cases hb9 : rk with | true => rfl | false => exact absurd ((bZ_0 _).mpr hb9) h3
        refine vv_aload_n F zd_NE_add_50 rfl 0 rfl ?_
        refine vv_get F zd_NE_add_51 zf_NE 0 rfl rfl 5 (by decide) zw_121 rfl ?_
        refine vv_iload_n F zd_NE_add_54 rfl 1 rfl ?_
        refine vv_iload_n F zd_NE_add_55 rfl 2 rfl ?_
        refine vv_callV (q0 := 3) (As := [.int (iI u), .int (iI v)]) (rest := []) (wr := [ceO 2 x [.ref w, .ref go, .int (iI (ac + 1)), .int (iI (bZ rk)), .ref ta, .ref o, .int (iI n), .int (iI ch)], ceO 5 ta [.ref tb], ceJ G tb 480 (tw (bP B u.toNat v.toNat true))]) F (cn_RE_lead l G o ah ab bh bb so H K f u v (by first | exact wH | assumption) (by first | exact wK | assumption) ⟨by omega, by omega⟩ ⟨by omega, by omega⟩) zm_RE_lead ⟨zw_283, zw_284⟩ zw_282 zd_NE_add_56 ⟨by decide, by decide⟩ ⟨by decide, by decide⟩ [3, 4, 5, 6, 7, 8] [0, 1, 2] rfl rfl ⟨rfl, rfl, by decide⟩ rfl rfl rfl rfl (Nat.le_of_ble_eq_true rfl) (fun v9 w9 hp9 => ?_)
        obtain ⟨f2_1, rfl, rfl⟩ := hp9
        refine vv_thenE (ws' := [ceO 2 x [.ref w, .ref go, .int (iI (ac + 1)), .int (iI (bZ rk)), .ref ta, .ref o, .int (iI n), .int (iI ch)], ceO 5 ta [.ref tb], ceJ G tb 480 (tw (bP B u.toNat v.toNat true)), ceO 4 o [.ref ah, .ref bh, .ref so], ceO 5 ah [.ref ab], ceJ G ab 480 (tw (ldA H K u.toNat v.toNat)), ceO 5 bh [.ref bb], ceJ G bb 480 (tw (ldB H K u.toNat v.toNat)), ceI G so 160 f2_1]) (st' := []) (kc' := 0) (ks' := 0) [0, 1, 2, 3, 4, 5, 6, 7, 8] rfl rfl rfl ?_
        refine vv_aload_n F zd_NE_add_59 rfl 0 rfl ?_
        refine vv_dup F zd_NE_add_60 rfl ?_
        refine vv_get F zd_NE_add_61 zf_NE 0 rfl rfl 7 (by decide) zw_127 rfl ?_
        refine vv_iconst F zd_NE_add_64 ?_
        refine vv_iadd F zd_NE_add_65 ?_
        refine vv_put (v := .int (iI (ch + 1))) (ws' := [ceO 2 x [.ref w, .ref go, .int (iI (ac + 1)), .int (iI (bZ rk)), .ref ta, .ref o, .int (iI n), .int (iI (ch + 1))], ceO 5 ta [.ref tb], ceJ G tb 480 (tw (bP B u.toNat v.toNat true)), ceO 4 o [.ref ah, .ref bh, .ref so], ceO 5 ah [.ref ab], ceJ G ab 480 (tw (ldA H K u.toNat v.toNat)), ceO 5 bh [.ref bb], ceJ G bb 480 (tw (ldB H K u.toNat v.toNat)), ceI G so 160 f2_1]) F zd_NE_add_66 zf_NE zt_NE_ok zn_NE 0 rfl rfl 7 (by decide) zw_127 rfl rfl rfl (Nat.le_of_ble_eq_true rfl) rfl ?_
        refine vv_aload_n F zd_NE_add_69 rfl 0 rfl ?_
        refine vv_get F zd_NE_add_70 zf_NE 0 rfl rfl 2 (by decide) zw_117 rfl ?_
        exact vv_iret F zd_NE_add_73 ⟨_, _, _, _, _, _, _, Or.inr ⟨rfl, h1, by omega, rfl, rfl, rfl, by rw [h3, if_pos rfl], by rw [h3, if_pos rfl]⟩, rfl, rfl⟩
    · refine vv_iconst F zd_NE_add_22 ?_
      exact vv_iret F zd_NE_add_23 ⟨B, ac, ch, H, K, f, -1, Or.inl ⟨rfl, Or.inr (by omega), rfl, rfl, rfl, rfl, rfl⟩, rfl, rfl⟩

set_option maxHeartbeats 4000000 in
set_option maxRecDepth 100000 in
theorem cn_NE_remove (l : Launch) (G : vv_G) (x : Nat) (w : Nat) (go : Nat) (ta : Nat) (o : Nat) (tb : Nat) (B : Nat → Nat → Bool) (ac : Int) (rk : Bool) (n : Int) (ch : Int) (u : Int) (v : Int) (hu : 0 ≤ u ∧ u < 160) (hv : 0 ≤ v ∧ v < 160) :
    vv_C l zy_NE_remove zc_NE_remove 3 (some .boolean) { frames := 2, cells := 0, slots := 0, locals := 42 } G [.ref x, .int (iI u), .int (iI v)] [ceO 2 x [.ref w, .ref go, .int (iI ac), .int (iI (bZ rk)), .ref ta, .ref o, .int (iI n), .int (iI ch)], ceO 5 ta [.ref tb], ceJ G tb 480 (tw B)] (fun v7 w7 => ∃ (B2 : Nat → Nat → Bool) (ac2 : Int) (rk2 : Bool) (ch2 : Int) (z : Bool), (nrem B ac rk ch u.toNat v.toNat B2 ac2 rk2 ch2 z) ∧ v7 = some (.int (iI (bZ z))) ∧ w7 = [ceO 2 x [.ref w, .ref go, .int (iI ac2), .int (iI (bZ rk2)), .ref ta, .ref o, .int (iI n), .int (iI ch2)], ceO 5 ta [.ref tb], ceJ G tb 480 (tw B2)]) := by
  refine vv_met (by decide +kernel) (Nat.le_of_ble_eq_true rfl) rfl ?_
  intro p e s m args below meth c A F
  refine vv_aload_n F zd_NE_remove_0 rfl 0 rfl ?_
  refine vv_get F zd_NE_remove_1 zf_NE 0 rfl rfl 4 (by decide) zw_119 rfl ?_
  refine vv_iload_n F zd_NE_remove_4 rfl 1 rfl ?_
  refine vv_iload_n F zd_NE_remove_5 rfl 2 rfl ?_
  refine vv_callV (q0 := 1) (As := [.int (iI u), .int (iI v)]) (rest := []) (wr := [ceO 2 x [.ref w, .ref go, .int (iI ac), .int (iI (bZ rk)), .ref ta, .ref o, .int (iI n), .int (iI ch)]]) F (cn_TA_has l G ta tb 480 B u v ⟨by omega, by omega⟩ ⟨by omega, by omega⟩ (by omega)) zm_TA_has ⟨zw_287, zw_288⟩ zw_519 zd_NE_remove_6 ⟨by decide, by decide⟩ ⟨by decide, by decide⟩ [1, 2] [0] rfl rfl ⟨rfl, rfl, by decide⟩ rfl rfl rfl rfl (Nat.le_of_ble_eq_true rfl) (vv_then (ws' := [ceO 2 x [.ref w, .ref go, .int (iI ac), .int (iI (bZ rk)), .ref ta, .ref o, .int (iI n), .int (iI ch)], ceO 5 ta [.ref tb], ceJ G tb 480 (tw B)]) (st' := [.int (iI (bZ (B u.toNat v.toNat)))]) [0, 1, 2] rfl rfl rfl ?_)
  refine vv_if_ne (tgt := 14) F zd_NE_remove_9 rfl (bZ_rg _) (fun h1 => ?_) (fun h1 => ?_)
  · have h1 : (B u.toNat v.toNat) = true := by cases hb9 : (B u.toNat v.toNat) with | true => rfl | false => exact absurd ((bZ_0 _).mpr hb9) h1
    refine vv_aload_n F zd_NE_remove_14 rfl 0 rfl ?_
    refine vv_get F zd_NE_remove_15 zf_NE 0 rfl rfl 4 (by decide) zw_119 rfl ?_
    refine vv_iload_n F zd_NE_remove_18 rfl 1 rfl ?_
    refine vv_iload_n F zd_NE_remove_19 rfl 2 rfl ?_
    refine vv_callV (q0 := 1) (As := [.int (iI u), .int (iI v)]) (rest := []) (wr := [ceO 2 x [.ref w, .ref go, .int (iI ac), .int (iI (bZ rk)), .ref ta, .ref o, .int (iI n), .int (iI ch)]]) F (cn_TA_take l G ta tb 480 B u v ⟨by omega, by omega⟩ ⟨by omega, by omega⟩ (by omega)) zm_TA_take ⟨zw_533, zw_534⟩ zw_532 zd_NE_remove_20 ⟨by decide, by decide⟩ ⟨by decide, by decide⟩ [1, 2] [0] rfl rfl ⟨rfl, rfl, by decide⟩ rfl rfl rfl rfl (Nat.le_of_ble_eq_true rfl) (vv_then (ws' := [ceO 2 x [.ref w, .ref go, .int (iI ac), .int (iI (bZ rk)), .ref ta, .ref o, .int (iI n), .int (iI ch)], ceO 5 ta [.ref tb], ceJ G tb 480 (tw (bP B u.toNat v.toNat false))]) (st' := []) [0, 1, 2] rfl rfl rfl ?_)
    refine vv_aload_n F zd_NE_remove_23 rfl 0 rfl ?_
    refine vv_dup F zd_NE_remove_24 rfl ?_
    refine vv_get F zd_NE_remove_25 zf_NE 0 rfl rfl 2 (by decide) zw_117 rfl ?_
    refine vv_iconst F zd_NE_remove_28 ?_
    refine vv_isub F zd_NE_remove_29 ?_
    refine vv_put (v := .int (iI (ac - 1))) (ws' := [ceO 2 x [.ref w, .ref go, .int (iI (ac - 1)), .int (iI (bZ rk)), .ref ta, .ref o, .int (iI n), .int (iI ch)], ceO 5 ta [.ref tb], ceJ G tb 480 (tw (bP B u.toNat v.toNat false))]) F zd_NE_remove_30 zf_NE zt_NE_ok zn_NE 0 rfl rfl 2 (by decide) zw_117 rfl rfl rfl (Nat.le_of_ble_eq_true rfl) rfl ?_
    refine vv_aload_n F zd_NE_remove_33 rfl 0 rfl ?_
    refine vv_iconst F zd_NE_remove_34 ?_
    rw [show (iI 0) = iI (bZ false) from rfl]
    refine vv_put (v := .int (iI (bZ false))) (ws' := [ceO 2 x [.ref w, .ref go, .int (iI (ac - 1)), .int (iI (bZ false)), .ref ta, .ref o, .int (iI n), .int (iI ch)], ceO 5 ta [.ref tb], ceJ G tb 480 (tw (bP B u.toNat v.toNat false))]) F zd_NE_remove_35 zf_NE zt_NE_ok zn_NE 0 rfl rfl 3 (by decide) zw_118 rfl (nb_bZ false) (fb_bZ false) (Nat.le_of_ble_eq_true rfl) rfl ?_
    refine vv_aload_n F zd_NE_remove_38 rfl 0 rfl ?_
    refine vv_dup F zd_NE_remove_39 rfl ?_
    refine vv_get F zd_NE_remove_40 zf_NE 0 rfl rfl 7 (by decide) zw_127 rfl ?_
    refine vv_iconst F zd_NE_remove_43 ?_
    refine vv_iadd F zd_NE_remove_44 ?_
    refine vv_put (v := .int (iI (ch + 1))) (ws' := [ceO 2 x [.ref w, .ref go, .int (iI (ac - 1)), .int (iI (bZ false)), .ref ta, .ref o, .int (iI n), .int (iI (ch + 1))], ceO 5 ta [.ref tb], ceJ G tb 480 (tw (bP B u.toNat v.toNat false))]) F zd_NE_remove_45 zf_NE zt_NE_ok zn_NE 0 rfl rfl 7 (by decide) zw_127 rfl rfl rfl (Nat.le_of_ble_eq_true rfl) rfl ?_
    refine vv_iconst F zd_NE_remove_48 ?_
    exact vv_zret (v := true) F zd_NE_remove_49 ⟨_, _, _, _, true, Or.inr ⟨rfl, h1, rfl, rfl, rfl, rfl⟩, rfl, rfl⟩
  · have h1 : (B u.toNat v.toNat) = false := (bZ_0 _).mp h1
    refine vv_iconst F zd_NE_remove_12 ?_
    exact vv_zret (v := false) F zd_NE_remove_13 ⟨B, ac, rk, ch, false, Or.inl ⟨rfl, h1, rfl, rfl, rfl, rfl⟩, rfl, rfl⟩

set_option maxHeartbeats 4000000 in
set_option maxRecDepth 100000 in
theorem lp_NE_lf {p : Program} {l : Launch} {e : Env} {s : State} {m : MethodId} {args : Array Value} {below : List Frame} {meth : Method} {c : Code} {A : Nat → Prop} {Q : State → Prop} {G : vv_G} (F : vv_F p s m args meth c zc_NE_leadFrom "ClauseGraph$Net" "leadFrom" none G A 4) (x : Nat) (w : Nat) (go : Nat) (ta : Nat) (o : Nat) (tb : Nat) (B : Nat → Nat → Bool) (ah : Nat) (ab : Nat) (bh : Nat) (bb : Nat) (so : Nat) (ac : Int) (rk : Bool) (n : Int) (ch : Int) (gf : Nat → Int) (a : Int) (g0 : Nat → Int) (hn : 0 ≤ n ∧ n ≤ 160) (hB : ∀ x y, B x y = true → x < n.toNat ∧ y < n.toNat) (ha : 0 ≤ a ∧ a < n) (hl : lsd (B a.toNat) 192 0 g0 gf)
    (k : ∀ (H : Nat → Nat → Bool) (K : Nat → Nat → Bool) (f : Nat → Int), (0 ≤ (cN (B a.toNat) 192 : Int) ∧ cl (pB B a.toNat (cN (B a.toNat) 192 : Int).toNat) n.toNat H K) → vv_V p l e { frames := 4, cells := 0, slots := 0, locals := 94 } s m args below meth c G A 4 Q 41 [(0, .ref x), (1, .int (iI a)), (2, .int (iI (cN (B a.toNat) 192 : Int))), (3, .int (iI (cN (B a.toNat) 192 : Int)))] [] [ceO 2 x [.ref w, .ref go, .int (iI ac), .int (iI (bZ rk)), .ref ta, .ref o, .int (iI n), .int (iI ch)], ceO 5 ta [.ref tb], ceJ G tb 480 (tw B), ceO 4 o [.ref ah, .ref bh, .ref so], ceO 5 ah [.ref ab], ceJ G ab 480 (tw H), ceO 5 bh [.ref bb], ceJ G bb 480 (tw K), ceI G so 160 f, ceI G go 160 gf] 0 0)  :
    ∀ (d : Nat) (i : Int) (H : Nat → Nat → Bool) (K : Nat → Nat → Bool) (f : Nat → Int), i + (d : Int) = (cN (B a.toNat) 192 : Int) → (0 ≤ i ∧ cl (pB B a.toNat i.toNat) n.toNat H K) → vv_V p l e { frames := 4, cells := 0, slots := 0, locals := 94 } s m args below meth c G A 4 Q 16 [(0, .ref x), (1, .int (iI a)), (2, .int (iI (cN (B a.toNat) 192 : Int))), (3, .int (iI i))] [] [ceO 2 x [.ref w, .ref go, .int (iI ac), .int (iI (bZ rk)), .ref ta, .ref o, .int (iI n), .int (iI ch)], ceO 5 ta [.ref tb], ceJ G tb 480 (tw B), ceO 4 o [.ref ah, .ref bh, .ref so], ceO 5 ah [.ref ab], ceJ G ab 480 (tw H), ceO 5 bh [.ref bb], ceJ G bb 480 (tw K), ceI G so 160 f, ceI G go 160 gf] 0 0 := by
  intro d
  induction d with
  | zero =>
    intro i H K f hd hI
    have hz : i = (cN (B a.toNat) 192 : Int) := by omega
    subst hz
    have wB : wfB B := fun x y h => by have := hB x y h; omega
    have hb := cN_160 (fun y hy => (wB a.toNat y hy).2)
    refine vv_iload_n F zd_NE_leadFrom_16 rfl 3 rfl ?_
    refine vv_iload_n F zd_NE_leadFrom_17 rfl 2 rfl ?_
    refine vv_icmp_ge (tgt := 41) F zd_NE_leadFrom_18 rfl (by first | exact ⟨by omega, by omega⟩) (by first | exact ⟨by omega, by omega⟩) (fun _ => ?_) (fun h9 => absurd h9 (by omega))
    exact k H K f hI
  | succ d ih =>
    intro i H K f hd hI
    have wB : wfB B := fun x y h => by have := hB x y h; omega
    have hb := cN_160 (fun y hy => (wB a.toNat y hy).2)
    have wH := (cl_wf hI.2 (by omega)).1
    have wK := (cl_wf hI.2 (by omega)).2
    obtain ⟨p9, hp1, hp2, hp3, hp4⟩ := lsd_at0 hl (i := i.toNat) (by omega)
    have hp5 := hB a.toNat p9 hp2
    refine vv_iload_n F zd_NE_leadFrom_16 rfl 3 rfl ?_
    refine vv_iload_n F zd_NE_leadFrom_17 rfl 2 rfl ?_
    refine vv_icmp_ge (tgt := 41) F zd_NE_leadFrom_18 rfl (by first | exact ⟨by omega, by omega⟩) (by first | exact ⟨by omega, by omega⟩) (fun h9 => absurd h9 (by omega)) (fun _ => ?_)
    refine vv_aload_n F zd_NE_leadFrom_21 rfl 0 rfl ?_
    refine vv_get F zd_NE_leadFrom_22 zf_NE 0 rfl rfl 5 (by decide) zw_121 rfl ?_
    refine vv_iload_n F zd_NE_leadFrom_25 rfl 1 rfl ?_
    refine vv_aload_n F zd_NE_leadFrom_26 rfl 0 rfl ?_
    refine vv_get F zd_NE_leadFrom_27 zf_NE 0 rfl rfl 1 (by decide) zw_116 rfl ?_
    refine vv_iload_n F zd_NE_leadFrom_30 rfl 3 rfl ?_
    refine vv_iald F zd_NE_leadFrom_31 9 rfl ⟨by omega, by omega⟩ (by decide) ?_
    refine vv_callV (q0 := 3) (As := [.int (iI a), .int (iI (gf i.toNat))]) (rest := []) (wr := [ceO 2 x [.ref w, .ref go, .int (iI ac), .int (iI (bZ rk)), .ref ta, .ref o, .int (iI n), .int (iI ch)], ceO 5 ta [.ref tb], ceJ G tb 480 (tw B), ceI G go 160 gf]) F (cn_RE_lead l G o ah ab bh bb so H K f a (gf i.toNat) (by first | exact wH | assumption) (by first | exact wK | assumption) ⟨by omega, by omega⟩ ⟨by omega, by omega⟩) zm_RE_lead ⟨zw_283, zw_284⟩ zw_282 zd_NE_leadFrom_32 ⟨by decide, by decide⟩ ⟨by decide, by decide⟩ [3, 4, 5, 6, 7, 8] [0, 1, 2, 9] rfl rfl ⟨rfl, rfl, by decide⟩ rfl rfl rfl rfl (Nat.le_of_ble_eq_true rfl) (fun v9 w9 hp9 => ?_)
    obtain ⟨f2_1, rfl, rfl⟩ := hp9
    refine vv_thenE (ws' := [ceO 2 x [.ref w, .ref go, .int (iI ac), .int (iI (bZ rk)), .ref ta, .ref o, .int (iI n), .int (iI ch)], ceO 5 ta [.ref tb], ceJ G tb 480 (tw B), ceO 4 o [.ref ah, .ref bh, .ref so], ceO 5 ah [.ref ab], ceJ G ab 480 (tw (ldA H K a.toNat (gf i.toNat).toNat)), ceO 5 bh [.ref bb], ceJ G bb 480 (tw (ldB H K a.toNat (gf i.toNat).toNat)), ceI G so 160 f2_1, ceI G go 160 gf]) (st' := []) (kc' := 0) (ks' := 0) [0, 1, 2, 4, 5, 6, 7, 8, 9, 3] rfl rfl rfl ?_
    refine vv_iinc (j := 3) (lv' := [(0, .ref x), (1, .int (iI a)), (2, .int (iI (cN (B a.toNat) 192 : Int))), (3, .int (iI (i + 1)))]) F zd_NE_leadFrom_35 rfl (by decide) [1, 2, 3, 0] rfl ?_
    refine vv_goto (tgt := 16) F zd_NE_leadFrom_38 rfl ?_
    exact ih (i + 1) (ldA H K a.toNat (gf i.toNat).toNat) (ldB H K a.toNat (gf i.toNat).toNat) f2_1 (by omega) (⟨by omega, by
      have h9 := cl_lead hI.2 (u := a.toNat) (v := p9) (by omega) (by omega)
      rw [pB_s hp2 hp3] at h9
      rw [hp4, Int.toNat_natCast, show (i + 1).toNat = i.toNat + 1 by omega]
      exact h9⟩)

set_option maxHeartbeats 4000000 in
set_option maxRecDepth 100000 in
theorem cn_NE_leadFrom (l : Launch) (G : vv_G) (x : Nat) (w : Nat) (go : Nat) (ta : Nat) (o : Nat) (tb : Nat) (B : Nat → Nat → Bool) (ah : Nat) (ab : Nat) (bh : Nat) (bb : Nat) (so : Nat) (ac : Int) (rk : Bool) (n : Int) (ch : Int) (H : Nat → Nat → Bool) (K : Nat → Nat → Bool) (f : Nat → Int) (gf : Nat → Int) (a : Int) (hn : 0 ≤ n ∧ n ≤ 160) (hB : ∀ x y, B x y = true → x < n.toNat ∧ y < n.toNat) (ha : 0 ≤ a ∧ a < n) (hc : cl (pB B a.toNat 0) n.toNat H K) :
    vv_C l zy_NE_leadFrom zc_NE_leadFrom 4 none { frames := 4, cells := 0, slots := 0, locals := 94 } G [.ref x, .int (iI a)] [ceO 2 x [.ref w, .ref go, .int (iI ac), .int (iI (bZ rk)), .ref ta, .ref o, .int (iI n), .int (iI ch)], ceO 5 ta [.ref tb], ceJ G tb 480 (tw B), ceO 4 o [.ref ah, .ref bh, .ref so], ceO 5 ah [.ref ab], ceJ G ab 480 (tw H), ceO 5 bh [.ref bb], ceJ G bb 480 (tw K), ceI G so 160 f, ceI G go 160 gf] (fun v7 w7 => ∃ (H2 : Nat → Nat → Bool) (K2 : Nat → Nat → Bool) (f2 : Nat → Int) (g2 : Nat → Int), (cl (pB B (a + 1).toNat 0) n.toNat H2 K2) ∧ v7 = none ∧ w7 = [ceO 2 x [.ref w, .ref go, .int (iI ac), .int (iI (bZ rk)), .ref ta, .ref o, .int (iI n), .int (iI ch)], ceO 5 ta [.ref tb], ceJ G tb 480 (tw B), ceO 4 o [.ref ah, .ref bh, .ref so], ceO 5 ah [.ref ab], ceJ G ab 480 (tw H2), ceO 5 bh [.ref bb], ceJ G bb 480 (tw K2), ceI G so 160 f2, ceI G go 160 g2]) := by
  refine vv_met (by decide +kernel) (Nat.le_of_ble_eq_true rfl) rfl ?_
  intro p e s m args below meth c A F
  refine vv_aload_n F zd_NE_leadFrom_0 rfl 0 rfl ?_
  refine vv_get F zd_NE_leadFrom_1 zf_NE 0 rfl rfl 4 (by decide) zw_119 rfl ?_
  refine vv_iload_n F zd_NE_leadFrom_4 rfl 1 rfl ?_
  refine vv_aload_n F zd_NE_leadFrom_5 rfl 0 rfl ?_
  refine vv_get F zd_NE_leadFrom_6 zf_NE 0 rfl rfl 1 (by decide) zw_116 rfl ?_
  refine vv_iconst F zd_NE_leadFrom_9 ?_
  refine vv_callV (q0 := 1) (As := [.int (iI a), .ref go, .int (iI 0)]) (rest := []) (wr := [ceO 2 x [.ref w, .ref go, .int (iI ac), .int (iI (bZ rk)), .ref ta, .ref o, .int (iI n), .int (iI ch)], ceO 4 o [.ref ah, .ref bh, .ref so], ceO 5 ah [.ref ab], ceJ G ab 480 (tw H), ceO 5 bh [.ref bb], ceJ G bb 480 (tw K), ceI G so 160 f]) F (cn_TA_list l G ta tb 480 B a go gf 0 ⟨by omega, by omega⟩ (by omega) ⟨by omega, by have := cN_160 (g := B a.toNat) (fun y hy => by have := hB a.toNat y hy; omega); omega⟩) zm_TA_list ⟨zw_270, zw_271⟩ zw_269 zd_NE_leadFrom_10 ⟨by decide, by decide⟩ ⟨by decide, by decide⟩ [1, 2, 9] [0, 3, 4, 5, 6, 7, 8] rfl rfl ⟨rfl, rfl, by decide⟩ rfl rfl rfl rfl (Nat.le_of_ble_eq_true rfl) (fun v9 w9 hp9 => ?_)
  obtain ⟨f2_1, hf1_0, rfl, rfl⟩ := hp9
  refine vv_thenE (ws' := [ceO 2 x [.ref w, .ref go, .int (iI ac), .int (iI (bZ rk)), .ref ta, .ref o, .int (iI n), .int (iI ch)], ceO 5 ta [.ref tb], ceJ G tb 480 (tw B), ceO 4 o [.ref ah, .ref bh, .ref so], ceO 5 ah [.ref ab], ceJ G ab 480 (tw H), ceO 5 bh [.ref bb], ceJ G bb 480 (tw K), ceI G so 160 f, ceI G go 160 f2_1]) (st' := [.int (iI (0 + (cN (B a.toNat) 192 : Int)))]) (kc' := 0) (ks' := 0) [0, 7, 8, 1, 2, 3, 4, 5, 6, 9] rfl rfl rfl ?_
  refine vv_ti (Int.zero_add _) ?_
  refine vv_istore_n (lv' := [(0, .ref x), (1, .int (iI a)), (2, .int (iI (cN (B a.toNat) 192 : Int)))]) F zd_NE_leadFrom_13 rfl (by decide) [1, 2, 0] rfl ?_
  refine vv_iconst F zd_NE_leadFrom_14 ?_
  refine vv_istore_n (lv' := [(0, .ref x), (1, .int (iI a)), (2, .int (iI (cN (B a.toNat) 192 : Int))), (3, .int (iI 0))]) F zd_NE_leadFrom_15 rfl (by decide) [1, 2, 3, 0] rfl ?_
  have wB : wfB B := fun x y h => by have := hB x y h; omega
  refine lp_NE_lf F x w go ta o tb B ah ab bh bb so ac rk n ch f2_1 a gf hn hB ha hf1_0 (fun H9 K9 f9 hI => ?_) (cN (B a.toNat) 192) 0 H K f (by omega) ⟨by omega, hc⟩
  have h9 := hI.2; rw [show ((cN (B a.toNat) 192 : Int)).toNat = cN (B a.toNat) 192 from rfl, pB_next wB] at h9
  exact vv_vret F zd_NE_leadFrom_41 ⟨H9, K9, f9, _, by rw [show (a + 1).toNat = a.toNat + 1 by omega]; exact h9, rfl, rfl⟩

set_option maxHeartbeats 4000000 in
set_option maxRecDepth 100000 in
theorem lp_NE_st {p : Program} {l : Launch} {e : Env} {s : State} {m : MethodId} {args : Array Value} {below : List Frame} {meth : Method} {c : Code} {A : Nat → Prop} {Q : State → Prop} {G : vv_G} (F : vv_F p s m args meth c zc_NE_settled "ClauseGraph$Net" "settled" (some (.object "ClauseGraph$Reach")) G A 2) (x : Nat) (w : Nat) (go : Nat) (ta : Nat) (o : Nat) (tb : Nat) (B : Nat → Nat → Bool) (ah : Nat) (ab : Nat) (bh : Nat) (bb : Nat) (so : Nat) (ac : Int) (rk : Bool) (n : Int) (ch : Int) (hn : 0 ≤ n ∧ n ≤ 160) (hB : ∀ x y, B x y = true → x < n.toNat ∧ y < n.toNat)
    (k : ∀ (H : Nat → Nat → Bool) (K : Nat → Nat → Bool) (f : Nat → Int) (gf : Nat → Int), (0 ≤ n ∧ cl (pB B n.toNat 0) n.toNat H K) → vv_V p l e { frames := 5, cells := 0, slots := 0, locals := 117 } s m args below meth c G A 2 Q 39 [(0, .ref x), (1, .int (iI n))] [] [ceO 2 x [.ref w, .ref go, .int (iI ac), .int (iI (bZ rk)), .ref ta, .ref o, .int (iI n), .int (iI ch)], ceO 5 ta [.ref tb], ceJ G tb 480 (tw B), ceO 4 o [.ref ah, .ref bh, .ref so], ceO 5 ah [.ref ab], ceJ G ab 480 (tw H), ceO 5 bh [.ref bb], ceJ G bb 480 (tw K), ceI G so 160 f, ceI G go 160 gf] 0 0)  :
    ∀ (d : Nat) (i : Int) (H : Nat → Nat → Bool) (K : Nat → Nat → Bool) (f : Nat → Int) (gf : Nat → Int), i + (d : Int) = n → (0 ≤ i ∧ cl (pB B i.toNat 0) n.toNat H K) → vv_V p l e { frames := 5, cells := 0, slots := 0, locals := 117 } s m args below meth c G A 2 Q 20 [(0, .ref x), (1, .int (iI i))] [] [ceO 2 x [.ref w, .ref go, .int (iI ac), .int (iI (bZ rk)), .ref ta, .ref o, .int (iI n), .int (iI ch)], ceO 5 ta [.ref tb], ceJ G tb 480 (tw B), ceO 4 o [.ref ah, .ref bh, .ref so], ceO 5 ah [.ref ab], ceJ G ab 480 (tw H), ceO 5 bh [.ref bb], ceJ G bb 480 (tw K), ceI G so 160 f, ceI G go 160 gf] 0 0 := by
  intro d
  induction d with
  | zero =>
    intro i H K f gf hd hI
    have hz : i = n := by omega
    subst hz
    refine vv_iload_n F zd_NE_settled_20 rfl 1 rfl ?_
    refine vv_aload_n F zd_NE_settled_21 rfl 0 rfl ?_
    refine vv_get F zd_NE_settled_22 zf_NE 0 rfl rfl 6 (by decide) zw_123 rfl ?_
    refine vv_icmp_ge (tgt := 39) F zd_NE_settled_25 rfl (by first | exact ⟨by omega, by omega⟩) (by first | exact ⟨by omega, by omega⟩) (fun _ => ?_) (fun h9 => absurd h9 (by omega))
    exact k H K f gf hI
  | succ d ih =>
    intro i H K f gf hd hI
    refine vv_iload_n F zd_NE_settled_20 rfl 1 rfl ?_
    refine vv_aload_n F zd_NE_settled_21 rfl 0 rfl ?_
    refine vv_get F zd_NE_settled_22 zf_NE 0 rfl rfl 6 (by decide) zw_123 rfl ?_
    refine vv_icmp_ge (tgt := 39) F zd_NE_settled_25 rfl (by first | exact ⟨by omega, by omega⟩) (by first | exact ⟨by omega, by omega⟩) (fun h9 => absurd h9 (by omega)) (fun _ => ?_)
    refine vv_aload_n F zd_NE_settled_28 rfl 0 rfl ?_
    refine vv_iload_n F zd_NE_settled_29 rfl 1 rfl ?_
    refine vv_callV (q0 := 0) (As := [.int (iI i)]) (rest := []) (wr := []) F (cn_NE_leadFrom l G x w go ta o tb B ah ab bh bb so ac rk n ch H K f gf i ⟨by omega, by omega⟩ hB ⟨by omega, by omega⟩ hI.2) zm_NE_leadFrom ⟨zw_267, zs_NE_leadFrom⟩ zw_265 zd_NE_settled_30 ⟨by decide, by decide⟩ ⟨by decide, by decide⟩ [0, 1, 2, 3, 4, 5, 6, 7, 8, 9] [] rfl rfl ⟨rfl, rfl, by decide⟩ rfl rfl rfl rfl (Nat.le_of_ble_eq_true rfl) (fun v9 w9 hp9 => ?_)
    obtain ⟨H2_1, K2_2, f2_3, g2_4, hf1_0, rfl, rfl⟩ := hp9
    refine vv_thenE (ws' := [ceO 2 x [.ref w, .ref go, .int (iI ac), .int (iI (bZ rk)), .ref ta, .ref o, .int (iI n), .int (iI ch)], ceO 5 ta [.ref tb], ceJ G tb 480 (tw B), ceO 4 o [.ref ah, .ref bh, .ref so], ceO 5 ah [.ref ab], ceJ G ab 480 (tw H2_1), ceO 5 bh [.ref bb], ceJ G bb 480 (tw K2_2), ceI G so 160 f2_3, ceI G go 160 g2_4]) (st' := []) (kc' := 0) (ks' := 0) [0, 1, 2, 3, 4, 5, 6, 7, 8, 9] rfl rfl rfl ?_
    refine vv_iinc (j := 1) (lv' := [(0, .ref x), (1, .int (iI (i + 1)))]) F zd_NE_settled_33 rfl (by decide) [1, 0] rfl ?_
    refine vv_goto (tgt := 20) F zd_NE_settled_36 rfl ?_
    exact ih (i + 1) H2_1 K2_2 f2_3 g2_4 (by omega) (⟨by omega, hf1_0⟩)

set_option maxHeartbeats 4000000 in
set_option maxRecDepth 100000 in
theorem cn_NE_settled (l : Launch) (G : vv_G) (x : Nat) (w : Nat) (go : Nat) (ta : Nat) (o : Nat) (tb : Nat) (B : Nat → Nat → Bool) (ah : Nat) (ab : Nat) (bh : Nat) (bb : Nat) (so : Nat) (ac : Int) (rk : Bool) (n : Int) (ch : Int) (H : Nat → Nat → Bool) (K : Nat → Nat → Bool) (f : Nat → Int) (gf : Nat → Int) (hn : 0 ≤ n ∧ n ≤ 160) (hB : ∀ x y, B x y = true → x < n.toNat ∧ y < n.toNat) (hc : rk = true → cl B n.toNat H K) :
    vv_C l zy_NE_settled zc_NE_settled 2 (some (.object "ClauseGraph$Reach")) { frames := 5, cells := 0, slots := 0, locals := 117 } G [.ref x] [ceO 2 x [.ref w, .ref go, .int (iI ac), .int (iI (bZ rk)), .ref ta, .ref o, .int (iI n), .int (iI ch)], ceO 5 ta [.ref tb], ceJ G tb 480 (tw B), ceO 4 o [.ref ah, .ref bh, .ref so], ceO 5 ah [.ref ab], ceJ G ab 480 (tw H), ceO 5 bh [.ref bb], ceJ G bb 480 (tw K), ceI G so 160 f, ceI G go 160 gf] (fun v7 w7 => ∃ (H2 : Nat → Nat → Bool) (K2 : Nat → Nat → Bool) (f2 : Nat → Int) (g2 : Nat → Int), (cl B n.toNat H2 K2) ∧ v7 = some (.ref o) ∧ w7 = [ceO 2 x [.ref w, .ref go, .int (iI ac), .int (iI (bZ true)), .ref ta, .ref o, .int (iI n), .int (iI ch)], ceO 5 ta [.ref tb], ceJ G tb 480 (tw B), ceO 4 o [.ref ah, .ref bh, .ref so], ceO 5 ah [.ref ab], ceJ G ab 480 (tw H2), ceO 5 bh [.ref bb], ceJ G bb 480 (tw K2), ceI G so 160 f2, ceI G go 160 g2]) := by
  refine vv_met (by decide +kernel) (Nat.le_of_ble_eq_true rfl) rfl ?_
  intro p e s m args below meth c A F
  refine vv_aload_n F zd_NE_settled_0 rfl 0 rfl ?_
  refine vv_get F zd_NE_settled_1 zf_NE 0 rfl rfl 3 (by decide) zw_118 rfl ?_
  refine vv_if_ne (tgt := 44) F zd_NE_settled_4 rfl (bZ_rg _) (fun h1 => ?_) (fun h1 => ?_)
  · have h1 : rk = true := by cases hb9 : rk with | true => rfl | false => exact absurd ((bZ_0 _).mpr hb9) h1
    refine vv_aload_n F zd_NE_settled_44 rfl 0 rfl ?_
    refine vv_get F zd_NE_settled_45 zf_NE 0 rfl rfl 5 (by decide) zw_121 rfl ?_
    exact vv_aret F zd_NE_settled_48 ⟨H, K, f, gf, hc h1, rfl, by rw [h1]⟩
  · have h1 : rk = false := (bZ_0 _).mp h1
    refine vv_aload_n F zd_NE_settled_7 rfl 0 rfl ?_
    refine vv_get F zd_NE_settled_8 zf_NE 0 rfl rfl 5 (by decide) zw_121 rfl ?_
    refine vv_aload_n F zd_NE_settled_11 rfl 0 rfl ?_
    refine vv_get F zd_NE_settled_12 zf_NE 0 rfl rfl 6 (by decide) zw_123 rfl ?_
    refine vv_callV (q0 := 3) (As := [.int (iI n)]) (rest := []) (wr := [ceO 2 x [.ref w, .ref go, .int (iI ac), .int (iI (bZ rk)), .ref ta, .ref o, .int (iI n), .int (iI ch)], ceO 5 ta [.ref tb], ceJ G tb 480 (tw B), ceI G go 160 gf]) F (cn_RE_begin l G o ah ab bh bb so H K f n ⟨by omega, by omega⟩) zm_RE_begin ⟨zw_104, zw_105⟩ zw_103 zd_NE_settled_15 ⟨by decide, by decide⟩ ⟨by decide, by decide⟩ [3, 4, 5, 6, 7, 8] [0, 1, 2, 9] rfl rfl ⟨rfl, rfl, by decide⟩ rfl rfl rfl rfl (Nat.le_of_ble_eq_true rfl) (vv_then (ws' := [ceO 2 x [.ref w, .ref go, .int (iI ac), .int (iI (bZ rk)), .ref ta, .ref o, .int (iI n), .int (iI ch)], ceO 5 ta [.ref tb], ceJ G tb 480 (tw B), ceO 4 o [.ref ah, .ref bh, .ref so], ceO 5 ah [.ref ab], ceJ G ab 480 (tw (idB n.toNat)), ceO 5 bh [.ref bb], ceJ G bb 480 (tw (idB n.toNat)), ceI G so 160 f, ceI G go 160 gf]) (st' := []) [0, 1, 2, 4, 5, 6, 7, 8, 9, 3] rfl rfl rfl ?_)
    refine vv_iconst F zd_NE_settled_18 ?_
    refine vv_istore_n (lv' := [(0, .ref x), (1, .int (iI 0))]) F zd_NE_settled_19 rfl (by decide) [1, 0] rfl ?_
    refine lp_NE_st F x w go ta o tb B ah ab bh bb so ac rk n ch hn hB (fun H9 K9 f9 g9 hI => ?_) n.toNat 0 (idB n.toNat) (idB n.toNat) f gf (by omega) ⟨by omega, by rw [show (0 : Int).toNat = 0 from rfl, pB_0]; exact cl_id _⟩
    have h9 := hI.2; rw [pB_all hB] at h9
    refine vv_aload_n F zd_NE_settled_39 rfl 0 rfl ?_
    refine vv_iconst F zd_NE_settled_40 ?_
    rw [show (iI 1) = iI (bZ true) from rfl]
    refine vv_put (v := .int (iI (bZ true))) (ws' := [ceO 2 x [.ref w, .ref go, .int (iI ac), .int (iI (bZ true)), .ref ta, .ref o, .int (iI n), .int (iI ch)], ceO 5 ta [.ref tb], ceJ G tb 480 (tw B), ceO 4 o [.ref ah, .ref bh, .ref so], ceO 5 ah [.ref ab], ceJ G ab 480 (tw H9), ceO 5 bh [.ref bb], ceJ G bb 480 (tw K9), ceI G so 160 f9, ceI G go 160 g9]) F zd_NE_settled_41 zf_NE zt_NE_ok zn_NE 0 rfl rfl 3 (by decide) zw_118 rfl (nb_bZ true) (fb_bZ true) (Nat.le_of_ble_eq_true rfl) rfl ?_
    refine vv_aload_n F zd_NE_settled_44 rfl 0 rfl ?_
    refine vv_get F zd_NE_settled_45 zf_NE 0 rfl rfl 5 (by decide) zw_121 rfl ?_
    exact vv_aret F zd_NE_settled_48 ⟨_, _, _, _, h9, rfl, rfl⟩

set_option maxHeartbeats 4000000 in
set_option maxRecDepth 100000 in
theorem cn_NE_shortest (l : Launch) (G : vv_G) (x : Nat) (w : Nat) (go : Nat) (ta : Nat) (o : Nat) (qa : Nat) (ra : Nat) (sa : Nat) (sb : Nat) (fa : Nat) (fb : Nat) (q : Nat → Int) (r : Nat → Int) (S : Nat → Nat → Bool) (Fr : Nat → Nat → Bool) (tb : Nat) (B : Nat → Nat → Bool) (ac : Int) (rk : Bool) (n : Int) (ch : Int) (u : Int) (v : Int) (wB : wfB B) (hu : 0 ≤ u ∧ u < 160) (hv : 0 ≤ v ∧ v < 160) :
    vv_C l zy_NE_shortest zc_NE_shortest 3 (some .int) { frames := 4, cells := 0, slots := 0, locals := 97 } G [.ref x, .int (iI u), .int (iI v)] [ceO 2 x [.ref w, .ref go, .int (iI ac), .int (iI (bZ rk)), .ref ta, .ref o, .int (iI n), .int (iI ch)], ceO 6 w [.ref qa, .ref ra, .ref sa, .ref fa], ceI G qa 160 q, ceI G ra 160 r, ceO 5 sa [.ref sb], ceJ G sb 3 (tw S), ceO 5 fa [.ref fb], ceJ G fb 3 (tw Fr), ceO 5 ta [.ref tb], ceJ G tb 480 (tw B)] (fun v7 w7 => ∃ (q2 : Nat → Int) (r2 : Nat → Int) (S2 : Nat → Nat → Bool) (F2 : Nat → Nat → Bool) (z : Int), (shB B u.toNat v.toNat z) ∧ v7 = some (.int (iI z)) ∧ w7 = [ceO 2 x [.ref w, .ref go, .int (iI ac), .int (iI (bZ rk)), .ref ta, .ref o, .int (iI n), .int (iI ch)], ceO 6 w [.ref qa, .ref ra, .ref sa, .ref fa], ceI G qa 160 q2, ceI G ra 160 r2, ceO 5 sa [.ref sb], ceJ G sb 3 (tw S2), ceO 5 fa [.ref fb], ceJ G fb 3 (tw F2), ceO 5 ta [.ref tb], ceJ G tb 480 (tw B)]) := by
  refine vv_met (by decide +kernel) (Nat.le_of_ble_eq_true rfl) rfl ?_
  intro p e s m args below meth c A F
  refine vv_aload_n F zd_NE_shortest_0 rfl 0 rfl ?_
  refine vv_get F zd_NE_shortest_1 zf_NE 0 rfl rfl 0 (by decide) zw_115 rfl ?_
  refine vv_aload_n F zd_NE_shortest_4 rfl 0 rfl ?_
  refine vv_get F zd_NE_shortest_5 zf_NE 0 rfl rfl 4 (by decide) zw_119 rfl ?_
  refine vv_iload_n F zd_NE_shortest_8 rfl 1 rfl ?_
  refine vv_iload_n F zd_NE_shortest_9 rfl 2 rfl ?_
  refine vv_callV (q0 := 1) (As := [.ref ta, .int (iI u), .int (iI v)]) (rest := []) (wr := [ceO 2 x [.ref w, .ref go, .int (iI ac), .int (iI (bZ rk)), .ref ta, .ref o, .int (iI n), .int (iI ch)]]) F (cn_WA_shortest l G w qa ra sa sb fa fb q r S Fr ta tb B u v (by first | exact wB | assumption) ⟨by omega, by omega⟩ ⟨by omega, by omega⟩) zm_WA_shortest ⟨zw_394, zw_395⟩ zw_612 zd_NE_shortest_10 ⟨by decide, by decide⟩ ⟨by decide, by decide⟩ [1, 2, 3, 4, 5, 6, 7, 8, 9] [0] rfl rfl ⟨rfl, rfl, by decide⟩ rfl rfl rfl rfl (Nat.le_of_ble_eq_true rfl) (fun v9 w9 hp9 => ?_)
  obtain ⟨q2_1, r2_2, S2_3, F2_4, z_5, hf1_0, rfl, rfl⟩ := hp9
  refine vv_thenE (ws' := [ceO 2 x [.ref w, .ref go, .int (iI ac), .int (iI (bZ rk)), .ref ta, .ref o, .int (iI n), .int (iI ch)], ceO 6 w [.ref qa, .ref ra, .ref sa, .ref fa], ceI G qa 160 q2_1, ceI G ra 160 r2_2, ceO 5 sa [.ref sb], ceJ G sb 3 (tw S2_3), ceO 5 fa [.ref fb], ceJ G fb 3 (tw F2_4), ceO 5 ta [.ref tb], ceJ G tb 480 (tw B)]) (st' := [.int (iI z_5)]) (kc' := 0) (ks' := 0) [0, 1, 2, 3, 4, 5, 6, 7, 8, 9] rfl rfl rfl ?_
  exact vv_iret F zd_NE_shortest_13 ⟨_, _, _, _, _, hf1_0, rfl, rfl⟩

set_option maxHeartbeats 4000000 in
set_option maxRecDepth 100000 in
theorem cn_NE_init (l : Launch) (G : vv_G) (x : Nat)  :
    vv_C l zy_NE_init zc_NE_init 1 none { frames := 4, cells := 16, slots := 2098, locals := 87 } G [.ref x] [ceO 2 x [.null, .null, .int (iI 0), .int (iI (bZ false)), .null, .null, .int (iI 0), .int (iI 0)]] (fun v7 w7 => ∃ (w : Nat) (qa : Nat) (ra : Nat) (sa : Nat) (sb : Nat) (fa : Nat) (fb : Nat) (go : Nat) (ta : Nat) (tb : Nat) (o : Nat) (ah : Nat) (ab : Nat) (bh : Nat) (bb : Nat) (so : Nat), v7 = none ∧ w7 = [ceO 2 x [.ref w, .ref go, .int (iI 0), .int (iI (bZ true)), .ref ta, .ref o, .int (iI 1), .int (iI (0 + 1))], ceO 6 w [.ref qa, .ref ra, .ref sa, .ref fa], ceI G qa 160 (fun _ => 0), ceI G ra 160 (fun _ => 0), ceO 5 sa [.ref sb], ceJ G sb 3 (tw (fun _ _ => false)), ceO 5 fa [.ref fb], ceJ G fb 3 (tw (fun _ _ => false)), ceI G go 160 (fun _ => 0), ceO 5 ta [.ref tb], ceJ G tb 480 (tw (fun _ _ => false)), ceO 4 o [.ref ah, .ref bh, .ref so], ceO 5 ah [.ref ab], ceJ G ab 480 (tw (idB 1)), ceO 5 bh [.ref bb], ceJ G bb 480 (tw (idB 1)), ceI G so 160 (fun _ => 0)]) := by
  refine vv_met (by decide +kernel) (Nat.le_of_ble_eq_true rfl) rfl ?_
  intro p e s m args below meth c A F
  refine vv_aload_n F zd_NE_init_0 rfl 0 rfl ?_
  refine vv_objInit F zd_NE_init_1 zw_50 zw_25 zw_26 (Nat.le_of_ble_eq_true rfl) (by decide) (by decide) ?_
  refine vv_aload_n F zd_NE_init_4 rfl 0 rfl ?_
  refine vv_new (ci := 6) (fs := [.null, .null, .null, .null]) F zd_NE_init_5 zf_WA zt_WA_ok zw_51 zw_52 zw_5 rfl (fun j hj => by rcases (show j = 0 ∨ j = 1 ∨ j = 2 ∨ j = 3 by omega) with rfl | rfl | rfl | rfl <;> rfl) (by decide) (by decide) (fun a1 => ?_)
  show vv_V _ _ _ _ _ _ _ _ _ _ _ _ _ _ _ [(0, .ref x)] [.ref a1, .ref x] [ceO 2 x [.null, .null, .int (iI 0), .int (iI (bZ false)), .null, .null, .int (iI 0), .int (iI 0)], ceO 6 a1 [.null, .null, .null, .null]] 1 4
  refine vv_dup F zd_NE_init_8 rfl ?_
  refine vv_callIN (As := []) (rest := [.ref a1, .ref x]) (wr := [ceO 2 x [.null, .null, .int (iI 0), .int (iI (bZ false)), .null, .null, .int (iI 0), .int (iI 0)]]) F (cn_WA_init l G a1) zm_WA_init ⟨rfl, zw_54⟩ zx_53 zd_NE_init_9 ⟨by decide, by decide⟩ ⟨by decide, by decide⟩ [1] [0] rfl rfl ⟨rfl, rfl, by decide⟩ rfl rfl (Nat.le_of_ble_eq_true rfl) (fun v9 w9 hp9 => ?_)
  obtain ⟨qa_2, ra_3, sa_4, sb_5, fa_6, fb_7, rfl, rfl⟩ := hp9
  refine vv_thenE (ws' := [ceO 2 x [.null, .null, .int (iI 0), .int (iI (bZ false)), .null, .null, .int (iI 0), .int (iI 0)], ceO 6 a1 [.ref qa_2, .ref ra_3, .ref sa_4, .ref fa_6], ceI G qa_2 160 (fun _ => 0), ceI G ra_3 160 (fun _ => 0), ceO 5 sa_4 [.ref sb_5], ceJ G sb_5 3 (tw (fun _ _ => false)), ceO 5 fa_6 [.ref fb_7], ceJ G fb_7 3 (tw (fun _ _ => false))]) (st' := [.ref a1, .ref x]) (kc' := 7) (ks' := 332) [0, 1, 2, 3, 4, 5, 6, 7] rfl rfl rfl ?_
  refine vv_putF (v := .ref a1) (ws' := [ceO 2 x [.ref a1, .null, .int (iI 0), .int (iI (bZ false)), .null, .null, .int (iI 0), .int (iI 0)], ceO 6 a1 [.ref qa_2, .ref ra_3, .ref sa_4, .ref fa_6], ceI G qa_2 160 (fun _ => 0), ceI G ra_3 160 (fun _ => 0), ceO 5 sa_4 [.ref sb_5], ceJ G sb_5 3 (tw (fun _ _ => false)), ceO 5 fa_6 [.ref fb_7], ceJ G fb_7 3 (tw (fun _ _ => false))]) F zd_NE_init_12 zf_NE zt_NE_ok zn_NE 0 rfl rfl 0 (by decide) zw_115 rfl rfl rfl rfl (Nat.le_of_ble_eq_true rfl) rfl ?_
  refine vv_aload_n F zd_NE_init_15 rfl 0 rfl ?_
  refine vv_sipush F zd_NE_init_16 (by decide) ?_
  refine vv_newaI (N := 160) F zd_NE_init_19 zw_43 rfl (by omega) (by decide) (by decide) (fun a8 => ?_)
  show vv_V _ _ _ _ _ _ _ _ _ _ _ _ _ _ _ [(0, .ref x)] [.ref a8, .ref x] [ceO 2 x [.ref a1, .null, .int (iI 0), .int (iI (bZ false)), .null, .null, .int (iI 0), .int (iI 0)], ceO 6 a1 [.ref qa_2, .ref ra_3, .ref sa_4, .ref fa_6], ceI G qa_2 160 (fun _ => 0), ceI G ra_3 160 (fun _ => 0), ceO 5 sa_4 [.ref sb_5], ceJ G sb_5 3 (tw (fun _ _ => false)), ceO 5 fa_6 [.ref fb_7], ceJ G fb_7 3 (tw (fun _ _ => false)), ceI G a8 160 (fun _ => 0)] 8 492
  refine vv_putF (v := .ref a8) (ws' := [ceO 2 x [.ref a1, .ref a8, .int (iI 0), .int (iI (bZ false)), .null, .null, .int (iI 0), .int (iI 0)], ceO 6 a1 [.ref qa_2, .ref ra_3, .ref sa_4, .ref fa_6], ceI G qa_2 160 (fun _ => 0), ceI G ra_3 160 (fun _ => 0), ceO 5 sa_4 [.ref sb_5], ceJ G sb_5 3 (tw (fun _ _ => false)), ceO 5 fa_6 [.ref fb_7], ceJ G fb_7 3 (tw (fun _ _ => false)), ceI G a8 160 (fun _ => 0)]) F zd_NE_init_21 zf_NE zt_NE_ok zn_NE 0 rfl rfl 1 (by decide) zw_116 rfl rfl rfl rfl (Nat.le_of_ble_eq_true rfl) rfl ?_
  refine vv_aload_n F zd_NE_init_24 rfl 0 rfl ?_
  refine vv_new (ci := 5) (fs := [.null]) F zd_NE_init_25 zf_TA zt_TA_ok zw_72 zw_34 zw_3 rfl (fun j hj => by rcases (show j = 0 by omega) with rfl <;> rfl) (by decide) (by decide) (fun a9 => ?_)
  show vv_V _ _ _ _ _ _ _ _ _ _ _ _ _ _ _ [(0, .ref x)] [.ref a9, .ref x] [ceO 2 x [.ref a1, .ref a8, .int (iI 0), .int (iI (bZ false)), .null, .null, .int (iI 0), .int (iI 0)], ceO 6 a1 [.ref qa_2, .ref ra_3, .ref sa_4, .ref fa_6], ceI G qa_2 160 (fun _ => 0), ceI G ra_3 160 (fun _ => 0), ceO 5 sa_4 [.ref sb_5], ceJ G sb_5 3 (tw (fun _ _ => false)), ceO 5 fa_6 [.ref fb_7], ceJ G fb_7 3 (tw (fun _ _ => false)), ceI G a8 160 (fun _ => 0), ceO 5 a9 [.null]] 9 493
  refine vv_dup F zd_NE_init_28 rfl ?_
  refine vv_sipush F zd_NE_init_29 (by decide) ?_
  refine vv_callI (As := [.int (iI 160)]) (rest := [.ref a9, .ref x]) (wr := [ceO 2 x [.ref a1, .ref a8, .int (iI 0), .int (iI (bZ false)), .null, .null, .int (iI 0), .int (iI 0)], ceO 6 a1 [.ref qa_2, .ref ra_3, .ref sa_4, .ref fa_6], ceI G qa_2 160 (fun _ => 0), ceI G ra_3 160 (fun _ => 0), ceO 5 sa_4 [.ref sb_5], ceJ G sb_5 3 (tw (fun _ _ => false)), ceO 5 fa_6 [.ref fb_7], ceJ G fb_7 3 (tw (fun _ _ => false)), ceI G a8 160 (fun _ => 0)]) F (cn_TA_init160 l G a9) zm_TA_init ⟨rfl, zw_36⟩ zw_73 zd_NE_init_32 ⟨by decide, by decide⟩ ⟨by decide, by decide⟩ [9] [0, 1, 2, 3, 4, 5, 6, 7, 8] rfl rfl ⟨rfl, rfl, by decide⟩ rfl rfl (Nat.le_of_ble_eq_true rfl) (fun v9 w9 hp9 => ?_)
  obtain ⟨b_10, rfl, rfl⟩ := hp9
  refine vv_thenE (ws' := [ceO 2 x [.ref a1, .ref a8, .int (iI 0), .int (iI (bZ false)), .null, .null, .int (iI 0), .int (iI 0)], ceO 6 a1 [.ref qa_2, .ref ra_3, .ref sa_4, .ref fa_6], ceI G qa_2 160 (fun _ => 0), ceI G ra_3 160 (fun _ => 0), ceO 5 sa_4 [.ref sb_5], ceJ G sb_5 3 (tw (fun _ _ => false)), ceO 5 fa_6 [.ref fb_7], ceJ G fb_7 3 (tw (fun _ _ => false)), ceI G a8 160 (fun _ => 0), ceO 5 a9 [.ref b_10], ceJ G b_10 480 (tw (fun _ _ => false))]) (st' := [.ref a9, .ref x]) (kc' := 10) (ks' := 973) [0, 1, 2, 3, 4, 5, 6, 7, 8, 9, 10] rfl rfl rfl ?_
  refine vv_putF (v := .ref a9) (ws' := [ceO 2 x [.ref a1, .ref a8, .int (iI 0), .int (iI (bZ false)), .ref a9, .null, .int (iI 0), .int (iI 0)], ceO 6 a1 [.ref qa_2, .ref ra_3, .ref sa_4, .ref fa_6], ceI G qa_2 160 (fun _ => 0), ceI G ra_3 160 (fun _ => 0), ceO 5 sa_4 [.ref sb_5], ceJ G sb_5 3 (tw (fun _ _ => false)), ceO 5 fa_6 [.ref fb_7], ceJ G fb_7 3 (tw (fun _ _ => false)), ceI G a8 160 (fun _ => 0), ceO 5 a9 [.ref b_10], ceJ G b_10 480 (tw (fun _ _ => false))]) F zd_NE_init_35 zf_NE zt_NE_ok zn_NE 0 rfl rfl 4 (by decide) zw_119 rfl rfl rfl rfl (Nat.le_of_ble_eq_true rfl) rfl ?_
  refine vv_aload_n F zd_NE_init_38 rfl 0 rfl ?_
  refine vv_new (ci := 4) (fs := [.null, .null, .null]) F zd_NE_init_39 zf_RE zt_RE_ok zw_74 zw_75 zw_6 rfl (fun j hj => by rcases (show j = 0 ∨ j = 1 ∨ j = 2 by omega) with rfl | rfl | rfl <;> rfl) (by decide) (by decide) (fun a11 => ?_)
  show vv_V _ _ _ _ _ _ _ _ _ _ _ _ _ _ _ [(0, .ref x)] [.ref a11, .ref x] [ceO 2 x [.ref a1, .ref a8, .int (iI 0), .int (iI (bZ false)), .ref a9, .null, .int (iI 0), .int (iI 0)], ceO 6 a1 [.ref qa_2, .ref ra_3, .ref sa_4, .ref fa_6], ceI G qa_2 160 (fun _ => 0), ceI G ra_3 160 (fun _ => 0), ceO 5 sa_4 [.ref sb_5], ceJ G sb_5 3 (tw (fun _ _ => false)), ceO 5 fa_6 [.ref fb_7], ceJ G fb_7 3 (tw (fun _ _ => false)), ceI G a8 160 (fun _ => 0), ceO 5 a9 [.ref b_10], ceJ G b_10 480 (tw (fun _ _ => false)), ceO 4 a11 [.null, .null, .null]] 11 976
  refine vv_dup F zd_NE_init_42 rfl ?_
  refine vv_callIN (As := []) (rest := [.ref a11, .ref x]) (wr := [ceO 2 x [.ref a1, .ref a8, .int (iI 0), .int (iI (bZ false)), .ref a9, .null, .int (iI 0), .int (iI 0)], ceO 6 a1 [.ref qa_2, .ref ra_3, .ref sa_4, .ref fa_6], ceI G qa_2 160 (fun _ => 0), ceI G ra_3 160 (fun _ => 0), ceO 5 sa_4 [.ref sb_5], ceJ G sb_5 3 (tw (fun _ _ => false)), ceO 5 fa_6 [.ref fb_7], ceJ G fb_7 3 (tw (fun _ _ => false)), ceI G a8 160 (fun _ => 0), ceO 5 a9 [.ref b_10], ceJ G b_10 480 (tw (fun _ _ => false))]) F (cn_RE_init l G a11) zm_RE_init ⟨rfl, zw_77⟩ zx_76 zd_NE_init_43 ⟨by decide, by decide⟩ ⟨by decide, by decide⟩ [11] [0, 1, 2, 3, 4, 5, 6, 7, 8, 9, 10] rfl rfl ⟨rfl, rfl, by decide⟩ rfl rfl (Nat.le_of_ble_eq_true rfl) (fun v9 w9 hp9 => ?_)
  obtain ⟨ah_12, ab_13, bh_14, bb_15, so_16, rfl, rfl⟩ := hp9
  refine vv_thenE (ws' := [ceO 2 x [.ref a1, .ref a8, .int (iI 0), .int (iI (bZ false)), .ref a9, .null, .int (iI 0), .int (iI 0)], ceO 6 a1 [.ref qa_2, .ref ra_3, .ref sa_4, .ref fa_6], ceI G qa_2 160 (fun _ => 0), ceI G ra_3 160 (fun _ => 0), ceO 5 sa_4 [.ref sb_5], ceJ G sb_5 3 (tw (fun _ _ => false)), ceO 5 fa_6 [.ref fb_7], ceJ G fb_7 3 (tw (fun _ _ => false)), ceI G a8 160 (fun _ => 0), ceO 5 a9 [.ref b_10], ceJ G b_10 480 (tw (fun _ _ => false)), ceO 4 a11 [.ref ah_12, .ref bh_14, .ref so_16], ceO 5 ah_12 [.ref ab_13], ceJ G ab_13 480 (tw (fun _ _ => false)), ceO 5 bh_14 [.ref bb_15], ceJ G bb_15 480 (tw (fun _ _ => false)), ceI G so_16 160 (fun _ => 0)]) (st' := [.ref a11, .ref x]) (kc' := 16) (ks' := 2098) [0, 1, 2, 3, 4, 5, 6, 7, 8, 9, 10, 11, 12, 13, 14, 15, 16] rfl rfl rfl ?_
  refine vv_putF (v := .ref a11) (ws' := [ceO 2 x [.ref a1, .ref a8, .int (iI 0), .int (iI (bZ false)), .ref a9, .ref a11, .int (iI 0), .int (iI 0)], ceO 6 a1 [.ref qa_2, .ref ra_3, .ref sa_4, .ref fa_6], ceI G qa_2 160 (fun _ => 0), ceI G ra_3 160 (fun _ => 0), ceO 5 sa_4 [.ref sb_5], ceJ G sb_5 3 (tw (fun _ _ => false)), ceO 5 fa_6 [.ref fb_7], ceJ G fb_7 3 (tw (fun _ _ => false)), ceI G a8 160 (fun _ => 0), ceO 5 a9 [.ref b_10], ceJ G b_10 480 (tw (fun _ _ => false)), ceO 4 a11 [.ref ah_12, .ref bh_14, .ref so_16], ceO 5 ah_12 [.ref ab_13], ceJ G ab_13 480 (tw (fun _ _ => false)), ceO 5 bh_14 [.ref bb_15], ceJ G bb_15 480 (tw (fun _ _ => false)), ceI G so_16 160 (fun _ => 0)]) F zd_NE_init_46 zf_NE zt_NE_ok zn_NE 0 rfl rfl 5 (by decide) zw_121 rfl rfl rfl rfl (Nat.le_of_ble_eq_true rfl) rfl ?_
  refine vv_aload_n F zd_NE_init_49 rfl 0 rfl ?_
  refine vv_iconst F zd_NE_init_50 ?_
  refine vv_callV (q0 := 0) (As := [.int (iI 1)]) (rest := []) (wr := [ceO 6 a1 [.ref qa_2, .ref ra_3, .ref sa_4, .ref fa_6], ceI G qa_2 160 (fun _ => 0), ceI G ra_3 160 (fun _ => 0), ceO 5 sa_4 [.ref sb_5], ceJ G sb_5 3 (tw (fun _ _ => false)), ceO 5 fa_6 [.ref fb_7], ceJ G fb_7 3 (tw (fun _ _ => false)), ceI G a8 160 (fun _ => 0)]) F (cn_NE_begin l G x a1 a8 a9 a11 b_10 (fun _ _ => false) ah_12 ab_13 bh_14 bb_15 so_16 0 false 0 0 (fun _ _ => false) (fun _ _ => false) (fun _ => 0) 1 ⟨by omega, by omega⟩) zm_NE_begin ⟨zw_93, zw_94⟩ zw_92 zd_NE_init_51 ⟨by decide, by decide⟩ ⟨by decide, by decide⟩ [0, 9, 10, 11, 12, 13, 14, 15, 16] [1, 2, 3, 4, 5, 6, 7, 8] rfl rfl ⟨rfl, rfl, by decide⟩ rfl rfl rfl rfl (Nat.le_of_ble_eq_true rfl) (vv_then (ws' := [ceO 2 x [.ref a1, .ref a8, .int (iI 0), .int (iI (bZ true)), .ref a9, .ref a11, .int (iI 1), .int (iI (0 + 1))], ceO 6 a1 [.ref qa_2, .ref ra_3, .ref sa_4, .ref fa_6], ceI G qa_2 160 (fun _ => 0), ceI G ra_3 160 (fun _ => 0), ceO 5 sa_4 [.ref sb_5], ceJ G sb_5 3 (tw (fun _ _ => false)), ceO 5 fa_6 [.ref fb_7], ceJ G fb_7 3 (tw (fun _ _ => false)), ceI G a8 160 (fun _ => 0), ceO 5 a9 [.ref b_10], ceJ G b_10 480 (tw (fun _ _ => false)), ceO 4 a11 [.ref ah_12, .ref bh_14, .ref so_16], ceO 5 ah_12 [.ref ab_13], ceJ G ab_13 480 (tw (idB 1)), ceO 5 bh_14 [.ref bb_15], ceJ G bb_15 480 (tw (idB 1)), ceI G so_16 160 (fun _ => 0)]) (st' := []) [8, 0, 1, 2, 3, 4, 5, 6, 7, 9, 10, 11, 12, 13, 14, 15, 16] rfl rfl rfl ?_)
  exact vv_vret F zd_NE_init_54 ⟨_, _, _, _, _, _, _, _, _, _, _, _, _, _, _, _, rfl, rfl⟩
