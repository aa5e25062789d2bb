set_option maxHeartbeats 4000000 in
set_option maxRecDepth 100000 in
theorem cn_CG_opposite (l : Launch) (G : vv_G) (u : Int) (hu : 0 ≤ u ∧ u < 160) :
    vv_D l zy_CG_opposite zc_CG_opposite 1 (some .int) { frames := 0, cells := 0, slots := 0, locals := 0 } G [.int (iI u)] [] (some (.int (iI (opp u.toNat : Int)))) [] := by
  refine vv_met (by decide +kernel) (Nat.le_of_ble_eq_true rfl) rfl ?_
  intro p e s m args below meth c A F
  refine vv_iload_n F zd_CG_opposite_0 rfl 0 rfl ?_
  refine vv_iconst F zd_CG_opposite_1 ?_
  refine vv_ixor (z := (opp u.toNat : Int)) F zd_CG_opposite_2 (xorI hu) ?_
  exact vv_iret F zd_CG_opposite_3 ⟨rfl, rfl⟩

set_option maxHeartbeats 4000000 in
set_option maxRecDepth 100000 in
theorem cn_CG_pointOf (l : Launch) (G : vv_G) (u : Int) (hu : -80 ≤ u ∧ u ≤ 80) :
    vv_D l zy_CG_pointOf zc_CG_pointOf 1 (some .int) { frames := 0, cells := 0, slots := 0, locals := 0 } G [.int (iI u)] [] (some (.int (iI (ptO u)))) [] := by
  refine vv_met (by decide +kernel) (Nat.le_of_ble_eq_true rfl) rfl ?_
  intro p e s m args below meth c A F
  refine vv_iload_n F zd_CG_pointOf_0 rfl 0 rfl ?_
  refine vv_if_le (tgt := 12) F zd_CG_pointOf_1 rfl (by first | exact ⟨by omega, by omega⟩) (fun h1 => ?_) (fun h1 => ?_)
  · refine vv_bipush F zd_CG_pointOf_12 (by decide) ?_
    refine vv_iload_n F zd_CG_pointOf_14 rfl 0 rfl ?_
    refine vv_imul F zd_CG_pointOf_15 ?_
    refine vv_iconst F zd_CG_pointOf_16 ?_
    refine vv_isub F zd_CG_pointOf_17 ?_
    exact vv_iret F zd_CG_pointOf_18 ⟨by rw [ptO_n (by omega)], rfl⟩
  · refine vv_iconst F zd_CG_pointOf_4 ?_
    refine vv_iload_n F zd_CG_pointOf_5 rfl 0 rfl ?_
    refine vv_imul F zd_CG_pointOf_6 ?_
    refine vv_iconst F zd_CG_pointOf_7 ?_
    refine vv_isub F zd_CG_pointOf_8 ?_
    refine vv_goto (tgt := 18) F zd_CG_pointOf_9 rfl ?_
    exact vv_iret F zd_CG_pointOf_18 ⟨by rw [ptO_p (by omega)], rfl⟩

set_option maxHeartbeats 4000000 in
set_option maxRecDepth 100000 in
theorem cn_CR_forgetSteps (l : Launch) (G : vv_G) (cr : Nat) (a1 : Nat) (a2 : Nat) (st : Nat) (o : Nat) (w : Nat) (hs : Nat) (sb : Nat) (T : Nat → Nat → Bool) (ah : Nat) (ab : Nat) (bh : Nat) (bb : Nat) (so : Nat) (tk : Int) (fl : Int) (rn : Bool) (sr : Int) (lr : Int) (nv : Int) (mm : Int) (H : Nat → Nat → Bool) (K : Nat → Nat → Bool) (f : Nat → Int) (hv : 1 ≤ nv ∧ nv ≤ 80) :
    vv_D l zy_CR_forgetSteps zc_CR_forgetSteps 1 none { frames := 3, cells := 0, slots := 0, locals := 66 } G [.ref cr] [ceO 1 cr [.ref a1, .ref a2, .ref st, .ref o, .ref w, .ref hs, .int (iI tk), .int (iI fl), .int (iI (bZ rn)), .int (iI sr), .int (iI lr), .int (iI nv), .int (iI mm)], ceO 5 st [.ref sb], ceJ G sb 480 (tw T), ceO 4 o [.ref ah, .ref bh, .ref so], ceO 5 ah [.ref ab], ceJ G ab 480 (tw H), ceO 5 bh [.ref bb], ceJ G bb 480 (tw K), ceI G so 160 f] none [ceO 1 cr [.ref a1, .ref a2, .ref st, .ref o, .ref w, .ref hs, .int (iI 0), .int (iI (-1)), .int (iI (bZ false)), .int (iI sr), .int (iI lr), .int (iI nv), .int (iI mm)], ceO 5 st [.ref sb], ceJ G sb 480 (tw (fun _ _ => false)), ceO 4 o [.ref ah, .ref bh, .ref so], ceO 5 ah [.ref ab], ceJ G ab 480 (tw (idB (2 * nv).toNat)), ceO 5 bh [.ref bb], ceJ G bb 480 (tw (idB (2 * nv).toNat)), ceI G so 160 f] := by
  refine vv_met (by decide +kernel) (Nat.le_of_ble_eq_true rfl) rfl ?_
  intro p e s m args below meth c A F
  refine vv_aload_n F zd_CR_forgetSteps_0 rfl 0 rfl ?_
  refine vv_get F zd_CR_forgetSteps_1 zf_CR 0 rfl rfl 2 (by decide) zw_201 rfl ?_
  refine vv_callV (q0 := 1) (As := []) (rest := []) (wr := [ceO 1 cr [.ref a1, .ref a2, .ref st, .ref o, .ref w, .ref hs, .int (iI tk), .int (iI fl), .int (iI (bZ rn)), .int (iI sr), .int (iI lr), .int (iI nv), .int (iI mm)], ceO 4 o [.ref ah, .ref bh, .ref so], ceO 5 ah [.ref ab], ceJ G ab 480 (tw H), ceO 5 bh [.ref bb], ceJ G bb 480 (tw K), ceI G so 160 f]) F (cn_TA_wipe l G st sb 480 T (by omega)) zm_TA_wipe ⟨zw_97, zw_98⟩ zw_197 zd_CR_forgetSteps_4 ⟨by decide, by decide⟩ ⟨by decide, by decide⟩ [1, 2] [0, 3, 4, 5, 6, 7, 8] rfl rfl ⟨rfl, rfl, by decide⟩ rfl rfl rfl rfl (Nat.le_of_ble_eq_true rfl) (vv_then (ws' := [ceO 1 cr [.ref a1, .ref a2, .ref st, .ref o, .ref w, .ref hs, .int (iI tk), .int (iI fl), .int (iI (bZ rn)), .int (iI sr), .int (iI lr), .int (iI nv), .int (iI mm)], ceO 5 st [.ref sb], ceJ G sb 480 (tw (fun _ _ => false)), ceO 4 o [.ref ah, .ref bh, .ref so], ceO 5 ah [.ref ab], ceJ G ab 480 (tw H), ceO 5 bh [.ref bb], ceJ G bb 480 (tw K), ceI G so 160 f]) (st' := []) [0, 7, 8, 1, 2, 3, 4, 5, 6] rfl rfl rfl ?_)
  refine vv_aload_n F zd_CR_forgetSteps_7 rfl 0 rfl ?_
  refine vv_get F zd_CR_forgetSteps_8 zf_CR 0 rfl rfl 3 (by decide) zw_202 rfl ?_
  refine vv_iconst F zd_CR_forgetSteps_11 ?_
  refine vv_aload_n F zd_CR_forgetSteps_12 rfl 0 rfl ?_
  refine vv_get F zd_CR_forgetSteps_13 zf_CR 0 rfl rfl 11 (by decide) zw_212 rfl ?_
  refine vv_imul F zd_CR_forgetSteps_16 ?_
  refine vv_callV (q0 := 3) (As := [.int (iI (2 * nv))]) (rest := []) (wr := [ceO 1 cr [.ref a1, .ref a2, .ref st, .ref o, .ref w, .ref hs, .int (iI tk), .int (iI fl), .int (iI (bZ rn)), .int (iI sr), .int (iI lr), .int (iI nv), .int (iI mm)], ceO 5 st [.ref sb], ceJ G sb 480 (tw (fun _ _ => false))]) F (cn_RE_begin l G o ah ab bh bb so H K f (2 * nv) ⟨by omega, by omega⟩) zm_RE_begin ⟨zw_104, zw_105⟩ zw_198 zd_CR_forgetSteps_17 ⟨by decide, by decide⟩ ⟨by decide, by decide⟩ [3, 4, 5, 6, 7, 8] [0, 1, 2] rfl rfl ⟨rfl, rfl, by decide⟩ rfl rfl rfl rfl (Nat.le_of_ble_eq_true rfl) (vv_then (ws' := [ceO 1 cr [.ref a1, .ref a2, .ref st, .ref o, .ref w, .ref hs, .int (iI tk), .int (iI fl), .int (iI (bZ rn)), .int (iI sr), .int (iI lr), .int (iI nv), .int (iI mm)], ceO 5 st [.ref sb], ceJ G sb 480 (tw (fun _ _ => false)), ceO 4 o [.ref ah, .ref bh, .ref so], ceO 5 ah [.ref ab], ceJ G ab 480 (tw (idB (2 * nv).toNat)), ceO 5 bh [.ref bb], ceJ G bb 480 (tw (idB (2 * nv).toNat)), ceI G so 160 f]) (st' := []) [0, 1, 2, 3, 4, 5, 6, 7, 8] rfl rfl rfl ?_)
  refine vv_aload_n F zd_CR_forgetSteps_20 rfl 0 rfl ?_
  refine vv_iconst F zd_CR_forgetSteps_21 ?_
  refine vv_put (v := .int (iI 0)) (ws' := [ceO 1 cr [.ref a1, .ref a2, .ref st, .ref o, .ref w, .ref hs, .int (iI 0), .int (iI fl), .int (iI (bZ rn)), .int (iI sr), .int (iI lr), .int (iI nv), .int (iI mm)], ceO 5 st [.ref sb], ceJ G sb 480 (tw (fun _ _ => false)), ceO 4 o [.ref ah, .ref bh, .ref so], ceO 5 ah [.ref ab], ceJ G ab 480 (tw (idB (2 * nv).toNat)), ceO 5 bh [.ref bb], ceJ G bb 480 (tw (idB (2 * nv).toNat)), ceI G so 160 f]) F zd_CR_forgetSteps_22 zf_CR zt_CR_ok zn_CR 0 rfl rfl 6 (by decide) zw_205 rfl rfl rfl (Nat.le_of_ble_eq_true rfl) rfl ?_
  refine vv_aload_n F zd_CR_forgetSteps_25 rfl 0 rfl ?_
  refine vv_iconst F zd_CR_forgetSteps_26 ?_
  refine vv_put (v := .int (iI (-1))) (ws' := [ceO 1 cr [.ref a1, .ref a2, .ref st, .ref o, .ref w, .ref hs, .int (iI 0), .int (iI (-1)), .int (iI (bZ rn)), .int (iI sr), .int (iI lr), .int (iI nv), .int (iI mm)], ceO 5 st [.ref sb], ceJ G sb 480 (tw (fun _ _ => false)), ceO 4 o [.ref ah, .ref bh, .ref so], ceO 5 ah [.ref ab], ceJ G ab 480 (tw (idB (2 * nv).toNat)), ceO 5 bh [.ref bb], ceJ G bb 480 (tw (idB (2 * nv).toNat)), ceI G so 160 f]) F zd_CR_forgetSteps_27 zf_CR zt_CR_ok zn_CR 0 rfl rfl 7 (by decide) zw_206 rfl rfl rfl (Nat.le_of_ble_eq_true rfl) rfl ?_
  refine vv_aload_n F zd_CR_forgetSteps_30 rfl 0 rfl ?_
  refine vv_iconst F zd_CR_forgetSteps_31 ?_
  rw [show (iI 0) = iI (bZ false) from rfl]
  refine vv_put (v := .int (iI (bZ false))) (ws' := [ceO 1 cr [.ref a1, .ref a2, .ref st, .ref o, .ref w, .ref hs, .int (iI 0), .int (iI (-1)), .int (iI (bZ false)), .int (iI sr), .int (iI lr), .int (iI nv), .int (iI mm)], ceO 5 st [.ref sb], ceJ G sb 480 (tw (fun _ _ => false)), ceO 4 o [.ref ah, .ref bh, .ref so], ceO 5 ah [.ref ab], ceJ G ab 480 (tw (idB (2 * nv).toNat)), ceO 5 bh [.ref bb], ceJ G bb 480 (tw (idB (2 * nv).toNat)), ceI G so 160 f]) F zd_CR_forgetSteps_32 zf_CR zt_CR_ok zn_CR 0 rfl rfl 8 (by decide) zw_207 rfl (nb_bZ false) (fb_bZ false) (Nat.le_of_ble_eq_true rfl) rfl ?_
  exact vv_vret F zd_CR_forgetSteps_35 ⟨rfl, rfl⟩

set_option maxHeartbeats 4000000 in
set_option maxRecDepth 100000 in
theorem cn_CR_begin (l : Launch) (G : vv_G) (cr : Nat) (a1 : Nat) (a2 : Nat) (st : Nat) (o : Nat) (w : Nat) (hs : Nat) (sb : Nat) (T : Nat → Nat → Bool) (ah : Nat) (ab : Nat) (bh : Nat) (bb : Nat) (so : Nat) (tk : Int) (fl : Int) (rn : Bool) (sr : Int) (lr : Int) (nv : Int) (mm : Int) (H : Nat → Nat → Bool) (K : Nat → Nat → Bool) (f : Nat → Int) (n2 : Int) (hv : 1 ≤ n2 ∧ n2 ≤ 80) :
    vv_D l zy_CR_begin zc_CR_begin 2 none { frames := 4, cells := 0, slots := 0, locals := 86 } G [.ref cr, .int (iI n2)] [ceO 1 cr [.ref a1, .ref a2, .ref st, .ref o, .ref w, .ref hs, .int (iI tk), .int (iI fl), .int (iI (bZ rn)), .int (iI sr), .int (iI lr), .int (iI nv), .int (iI mm)], ceO 5 st [.ref sb], ceJ G sb 480 (tw T), ceO 4 o [.ref ah, .ref bh, .ref so], ceO 5 ah [.ref ab], ceJ G ab 480 (tw H), ceO 5 bh [.ref bb], ceJ G bb 480 (tw K), ceI G so 160 f] none [ceO 1 cr [.ref a1, .ref a2, .ref st, .ref o, .ref w, .ref hs, .int (iI 0), .int (iI (-1)), .int (iI (bZ false)), .int (iI sr), .int (iI lr), .int (iI n2), .int (iI 0)], ceO 5 st [.ref sb], ceJ G sb 480 (tw (fun _ _ => false)), ceO 4 o [.ref ah, .ref bh, .ref so], ceO 5 ah [.ref ab], ceJ G ab 480 (tw (idB (2 * n2).toNat)), ceO 5 bh [.ref bb], ceJ G bb 480 (tw (idB (2 * n2).toNat)), ceI G so 160 f] := by
  refine vv_met (by decide +kernel) (Nat.le_of_ble_eq_true rfl) rfl ?_
  intro p e s m args below meth c A F
  refine vv_aload_n F zd_CR_begin_0 rfl 0 rfl ?_
  refine vv_iload_n F zd_CR_begin_1 rfl 1 rfl ?_
  refine vv_put (v := .int (iI n2)) (ws' := [ceO 1 cr [.ref a1, .ref a2, .ref st, .ref o, .ref w, .ref hs, .int (iI tk), .int (iI fl), .int (iI (bZ rn)), .int (iI sr), .int (iI lr), .int (iI n2), .int (iI mm)], ceO 5 st [.ref sb], ceJ G sb 480 (tw T), ceO 4 o [.ref ah, .ref bh, .ref so], ceO 5 ah [.ref ab], ceJ G ab 480 (tw H), ceO 5 bh [.ref bb], ceJ G bb 480 (tw K), ceI G so 160 f]) F zd_CR_begin_2 zf_CR zt_CR_ok zn_CR 0 rfl rfl 11 (by decide) zw_212 rfl rfl rfl (Nat.le_of_ble_eq_true rfl) rfl ?_
  refine vv_aload_n F zd_CR_begin_5 rfl 0 rfl ?_
  refine vv_iconst F zd_CR_begin_6 ?_
  refine vv_put (v := .int (iI 0)) (ws' := [ceO 1 cr [.ref a1, .ref a2, .ref st, .ref o, .ref w, .ref hs, .int (iI tk), .int (iI fl), .int (iI (bZ rn)), .int (iI sr), .int (iI lr), .int (iI n2), .int (iI 0)], ceO 5 st [.ref sb], ceJ G sb 480 (tw T), ceO 4 o [.ref ah, .ref bh, .ref so], ceO 5 ah [.ref ab], ceJ G ab 480 (tw H), ceO 5 bh [.ref bb], ceJ G bb 480 (tw K), ceI G so 160 f]) F zd_CR_begin_7 zf_CR zt_CR_ok zn_CR 0 rfl rfl 12 (by decide) zw_214 rfl rfl rfl (Nat.le_of_ble_eq_true rfl) rfl ?_
  refine vv_aload_n F zd_CR_begin_10 rfl 0 rfl ?_
  refine vv_callV (q0 := 0) (As := []) (rest := []) (wr := []) F (cn_CR_forgetSteps l G cr a1 a2 st o w hs sb T ah ab bh bb so tk fl rn sr lr n2 0 H K f ⟨by omega, by omega⟩) zm_CR_forgetSteps ⟨zw_195, zs_CR_forgetSteps⟩ zw_193 zd_CR_begin_11 ⟨by decide, by decide⟩ ⟨by decide, by decide⟩ [0, 1, 2, 3, 4, 5, 6, 7, 8] [] rfl rfl ⟨rfl, rfl, by decide⟩ rfl rfl rfl rfl (Nat.le_of_ble_eq_true rfl) (vv_then (ws' := [ceO 1 cr [.ref a1, .ref a2, .ref st, .ref o, .ref w, .ref hs, .int (iI 0), .int (iI (-1)), .int (iI (bZ false)), .int (iI sr), .int (iI lr), .int (iI n2), .int (iI 0)], ceO 5 st [.ref sb], ceJ G sb 480 (tw (fun _ _ => false)), ceO 4 o [.ref ah, .ref bh, .ref so], ceO 5 ah [.ref ab], ceJ G ab 480 (tw (idB (2 * n2).toNat)), ceO 5 bh [.ref bb], ceJ G bb 480 (tw (idB (2 * n2).toNat)), ceI G so 160 f]) (st' := []) [0, 1, 2, 3, 4, 5, 6, 7, 8] rfl rfl rfl ?_)
  exact vv_vret F zd_CR_begin_14 ⟨rfl, rfl⟩

set_option maxHeartbeats 4000000 in
set_option maxRecDepth 100000 in
theorem cn_CR_add (l : Launch) (G : vv_G) (cr : Nat) (a1 : Nat) (a2 : Nat) (st : Nat) (o : Nat) (w : Nat) (hs : Nat) (tk : Int) (fl : Int) (rn : Bool) (sr : Int) (lr : Int) (nv : Int) (mm : Int) (f1 : Nat → Int) (f2 : Nat → Int) (u : Int) (v : Int) (hm : 0 ≤ mm ∧ mm ≤ 400) :
    vv_C l zy_CR_add zc_CR_add 3 (some .int) { frames := 0, cells := 0, slots := 0, locals := 0 } G [.ref cr, .int (iI u), .int (iI v)] [ceO 1 cr [.ref a1, .ref a2, .ref st, .ref o, .ref w, .ref hs, .int (iI tk), .int (iI fl), .int (iI (bZ rn)), .int (iI sr), .int (iI lr), .int (iI nv), .int (iI mm)], ceI G a1 400 f1, ceI G a2 400 f2] (fun v7 w7 => ∃ (g1 : Nat → Int) (g2 : Nat → Int) (mm2 : Int) (rn2 : Bool) (z : Int), (radd f1 f2 mm rn u v g1 g2 mm2 rn2 z) ∧ v7 = some (.int (iI z)) ∧ w7 = [ceO 1 cr [.ref a1, .ref a2, .ref st, .ref o, .ref w, .ref hs, .int (iI tk), .int (iI fl), .int (iI (bZ rn2)), .int (iI sr), .int (iI lr), .int (iI nv), .int (iI mm2)], ceI G a1 400 g1, ceI G a2 400 g2]) := by
  refine vv_met (by decide +kernel) (Nat.le_of_ble_eq_true rfl) rfl ?_
  intro p e s m args below meth c A F
  refine vv_aload_n F zd_CR_add_0 rfl 0 rfl ?_
  refine vv_get F zd_CR_add_1 zf_CR 0 rfl rfl 12 (by decide) zw_214 rfl ?_
  refine vv_sipush F zd_CR_add_4 (by decide) ?_
  refine vv_icmp_lt (tgt := 12) F zd_CR_add_7 rfl (by first | exact ⟨by omega, by omega⟩) (by decide) (fun h1 => ?_) (fun h1 => ?_)
  · refine vv_aload_n F zd_CR_add_12 rfl 0 rfl ?_
    refine vv_get F zd_CR_add_13 zf_CR 0 rfl rfl 0 (by decide) zw_199 rfl ?_
    refine vv_aload_n F zd_CR_add_16 rfl 0 rfl ?_
    refine vv_get F zd_CR_add_17 zf_CR 0 rfl rfl 12 (by decide) zw_214 rfl ?_
    refine vv_iload_n F zd_CR_add_20 rfl 1 rfl ?_
    refine vv_iast (x := u) (ws' := [ceO 1 cr [.ref a1, .ref a2, .ref st, .ref o, .ref w, .ref hs, .int (iI tk), .int (iI fl), .int (iI (bZ rn)), .int (iI sr), .int (iI lr), .int (iI nv), .int (iI mm)], ceI G a1 400 (va_up f1 mm.toNat u), ceI G a2 400 f2]) F zd_CR_add_21 1 rfl ⟨by omega, by omega⟩ (by decide) rfl ?_
    refine vv_aload_n F zd_CR_add_22 rfl 0 rfl ?_
    refine vv_get F zd_CR_add_23 zf_CR 0 rfl rfl 1 (by decide) zw_200 rfl ?_
    refine vv_aload_n F zd_CR_add_26 rfl 0 rfl ?_
    refine vv_get F zd_CR_add_27 zf_CR 0 rfl rfl 12 (by decide) zw_214 rfl ?_
    refine vv_iload_n F zd_CR_add_30 rfl 2 rfl ?_
    refine vv_iast (x := v) (ws' := [ceO 1 cr [.ref a1, .ref a2, .ref st, .ref o, .ref w, .ref hs, .int (iI tk), .int (iI fl), .int (iI (bZ rn)), .int (iI sr), .int (iI lr), .int (iI nv), .int (iI mm)], ceI G a1 400 (va_up f1 mm.toNat u), ceI G a2 400 (va_up f2 mm.toNat v)]) F zd_CR_add_31 2 rfl ⟨by omega, by omega⟩ (by decide) rfl ?_
    refine vv_aload_n F zd_CR_add_32 rfl 0 rfl ?_
    refine vv_dup F zd_CR_add_33 rfl ?_
    refine vv_get F zd_CR_add_34 zf_CR 0 rfl rfl 12 (by decide) zw_214 rfl ?_
    refine vv_iconst F zd_CR_add_37 ?_
    refine vv_iadd F zd_CR_add_38 ?_
    refine vv_put (v := .int (iI (mm + 1))) (ws' := [ceO 1 cr [.ref a1, .ref a2, .ref st, .ref o, .ref w, .ref hs, .int (iI tk), .int (iI fl), .int (iI (bZ rn)), .int (iI sr), .int (iI lr), .int (iI nv), .int (iI (mm + 1))], ceI G a1 400 (va_up f1 mm.toNat u), ceI G a2 400 (va_up f2 mm.toNat v)]) F zd_CR_add_39 zf_CR zt_CR_ok zn_CR 0 rfl rfl 12 (by decide) zw_214 rfl rfl rfl (Nat.le_of_ble_eq_true rfl) rfl ?_
    refine vv_aload_n F zd_CR_add_42 rfl 0 rfl ?_
    refine vv_iconst F zd_CR_add_43 ?_
    rw [show (iI 0) = iI (bZ false) from rfl]
    refine vv_put (v := .int (iI (bZ false))) (ws' := [ceO 1 cr [.ref a1, .ref a2, .ref st, .ref o, .ref w, .ref hs, .int (iI tk), .int (iI fl), .int (iI (bZ false)), .int (iI sr), .int (iI lr), .int (iI nv), .int (iI (mm + 1))], ceI G a1 400 (va_up f1 mm.toNat u), ceI G a2 400 (va_up f2 mm.toNat v)]) F zd_CR_add_44 zf_CR zt_CR_ok zn_CR 0 rfl rfl 8 (by decide) zw_207 rfl (nb_bZ false) (fb_bZ false) (Nat.le_of_ble_eq_true rfl) rfl ?_
    refine vv_aload_n F zd_CR_add_47 rfl 0 rfl ?_
    refine vv_get F zd_CR_add_48 zf_CR 0 rfl rfl 12 (by decide) zw_214 rfl ?_
    exact vv_iret F zd_CR_add_51 ⟨_, _, _, _, _, Or.inr ⟨rfl, by omega, rfl, rfl, rfl, rfl⟩, rfl, rfl⟩
  · refine vv_iconst F zd_CR_add_10 ?_
    exact vv_iret F zd_CR_add_11 ⟨f1, f2, mm, rn, -1, Or.inl ⟨rfl, by omega, rfl, rfl, rfl, rfl⟩, rfl, rfl⟩

set_option maxHeartbeats 4000000 in
set_option maxRecDepth 100000 in
theorem cn_CR_remove (l : Launch) (G : vv_G) (cr : Nat) (a1 : Nat) (a2 : Nat) (st : Nat) (o : Nat) (w : Nat) (hs : Nat) (sb : Nat) (T : Nat → Nat → Bool) (ah : Nat) (ab : Nat) (bh : Nat) (bb : Nat) (so : Nat) (tk : Int) (fl : Int) (rn : Bool) (sr : Int) (lr : Int) (nv : Int) (mm : Int) (H : Nat → Nat → Bool) (K : Nat → Nat → Bool) (f : Nat → Int) (f1 : Nat → Int) (f2 : Nat → Int) (v : Int) (hv : 1 ≤ nv ∧ nv ≤ 80) (hm : 0 ≤ mm ∧ mm ≤ 400) (hk : 0 ≤ v ∧ v < mm) :
    vv_D l zy_CR_remove zc_CR_remove 2 none { frames := 4, cells := 0, slots := 0, locals := 86 } G [.ref cr, .int (iI v)] [ceO 1 cr [.ref a1, .ref a2, .ref st, .ref o, .ref w, .ref hs, .int (iI tk), .int (iI fl), .int (iI (bZ rn)), .int (iI sr), .int (iI lr), .int (iI nv), .int (iI mm)], ceI G a1 400 f1, ceI G a2 400 f2, ceO 5 st [.ref sb], ceJ G sb 480 (tw T), ceO 4 o [.ref ah, .ref bh, .ref so], ceO 5 ah [.ref ab], ceJ G ab 480 (tw H), ceO 5 bh [.ref bb], ceJ G bb 480 (tw K), ceI G so 160 f] none [ceO 1 cr [.ref a1, .ref a2, .ref st, .ref o, .ref w, .ref hs, .int (iI 0), .int (iI (-1)), .int (iI (bZ false)), .int (iI sr), .int (iI lr), .int (iI nv), .int (iI (mm - 1))], ceI G a1 400 (va_cpy f1 f1 (v + 1).toNat v.toNat ((mm - 1) - v).toNat), ceI G a2 400 (va_cpy f2 f2 (v + 1).toNat v.toNat ((mm - 1) - v).toNat), ceO 5 st [.ref sb], ceJ G sb 480 (tw (fun _ _ => false)), ceO 4 o [.ref ah, .ref bh, .ref so], ceO 5 ah [.ref ab], ceJ G ab 480 (tw (idB (2 * nv).toNat)), ceO 5 bh [.ref bb], ceJ G bb 480 (tw (idB (2 * nv).toNat)), ceI G so 160 f] := by
  refine vv_met (by decide +kernel) (Nat.le_of_ble_eq_true rfl) rfl ?_
  intro p e s m args below meth c A F
  refine vv_aload_n F zd_CR_remove_0 rfl 0 rfl ?_
  refine vv_dup F zd_CR_remove_1 rfl ?_
  refine vv_get F zd_CR_remove_2 zf_CR 0 rfl rfl 12 (by decide) zw_214 rfl ?_
  refine vv_iconst F zd_CR_remove_5 ?_
  refine vv_isub F zd_CR_remove_6 ?_
  refine vv_put (v := .int (iI (mm - 1))) (ws' := [ceO 1 cr [.ref a1, .ref a2, .ref st, .ref o, .ref w, .ref hs, .int (iI tk), .int (iI fl), .int (iI (bZ rn)), .int (iI sr), .int (iI lr), .int (iI nv), .int (iI (mm - 1))], ceI G a1 400 f1, ceI G a2 400 f2, ceO 5 st [.ref sb], ceJ G sb 480 (tw T), ceO 4 o [.ref ah, .ref bh, .ref so], ceO 5 ah [.ref ab], ceJ G ab 480 (tw H), ceO 5 bh [.ref bb], ceJ G bb 480 (tw K), ceI G so 160 f]) F zd_CR_remove_7 zf_CR zt_CR_ok zn_CR 0 rfl rfl 12 (by decide) zw_214 rfl rfl rfl (Nat.le_of_ble_eq_true rfl) rfl ?_
  refine vv_aload_n F zd_CR_remove_10 rfl 0 rfl ?_
  refine vv_get F zd_CR_remove_11 zf_CR 0 rfl rfl 0 (by decide) zw_199 rfl ?_
  refine vv_iload_n F zd_CR_remove_14 rfl 1 rfl ?_
  refine vv_iconst F zd_CR_remove_15 ?_
  refine vv_iadd F zd_CR_remove_16 ?_
  refine vv_aload_n F zd_CR_remove_17 rfl 0 rfl ?_
  refine vv_get F zd_CR_remove_18 zf_CR 0 rfl rfl 0 (by decide) zw_199 rfl ?_
  refine vv_iload_n F zd_CR_remove_21 rfl 1 rfl ?_
  refine vv_aload_n F zd_CR_remove_22 rfl 0 rfl ?_
  refine vv_get F zd_CR_remove_23 zf_CR 0 rfl rfl 12 (by decide) zw_214 rfl ?_
  refine vv_iload_n F zd_CR_remove_26 rfl 1 rfl ?_
  refine vv_isub F zd_CR_remove_27 ?_
  refine vv_acopy (ws' := [ceO 1 cr [.ref a1, .ref a2, .ref st, .ref o, .ref w, .ref hs, .int (iI tk), .int (iI fl), .int (iI (bZ rn)), .int (iI sr), .int (iI lr), .int (iI nv), .int (iI (mm - 1))], ceI G a1 400 (va_cpy f1 f1 (v + 1).toNat v.toNat ((mm - 1) - v).toNat), ceI G a2 400 f2, ceO 5 st [.ref sb], ceJ G sb 480 (tw T), ceO 4 o [.ref ah, .ref bh, .ref so], ceO 5 ah [.ref ab], ceJ G ab 480 (tw H), ceO 5 bh [.ref bb], ceJ G bb 480 (tw K), ceI G so 160 f]) F zd_CR_remove_28 zw_661 zw_663 zw_662 zw_17 1 rfl ⟨by omega, by omega, by omega⟩ (by omega) (by omega) (by decide) (Nat.le_of_ble_eq_true rfl) (by decide) (by decide) rfl ?_
  refine vv_aload_n F zd_CR_remove_31 rfl 0 rfl ?_
  refine vv_get F zd_CR_remove_32 zf_CR 0 rfl rfl 1 (by decide) zw_200 rfl ?_
  refine vv_iload_n F zd_CR_remove_35 rfl 1 rfl ?_
  refine vv_iconst F zd_CR_remove_36 ?_
  refine vv_iadd F zd_CR_remove_37 ?_
  refine vv_aload_n F zd_CR_remove_38 rfl 0 rfl ?_
  refine vv_get F zd_CR_remove_39 zf_CR 0 rfl rfl 1 (by decide) zw_200 rfl ?_
  refine vv_iload_n F zd_CR_remove_42 rfl 1 rfl ?_
  refine vv_aload_n F zd_CR_remove_43 rfl 0 rfl ?_
  refine vv_get F zd_CR_remove_44 zf_CR 0 rfl rfl 12 (by decide) zw_214 rfl ?_
  refine vv_iload_n F zd_CR_remove_47 rfl 1 rfl ?_
  refine vv_isub F zd_CR_remove_48 ?_
  refine vv_acopy (ws' := [ceO 1 cr [.ref a1, .ref a2, .ref st, .ref o, .ref w, .ref hs, .int (iI tk), .int (iI fl), .int (iI (bZ rn)), .int (iI sr), .int (iI lr), .int (iI nv), .int (iI (mm - 1))], ceI G a1 400 (va_cpy f1 f1 (v + 1).toNat v.toNat ((mm - 1) - v).toNat), ceI G a2 400 (va_cpy f2 f2 (v + 1).toNat v.toNat ((mm - 1) - v).toNat), ceO 5 st [.ref sb], ceJ G sb 480 (tw T), ceO 4 o [.ref ah, .ref bh, .ref so], ceO 5 ah [.ref ab], ceJ G ab 480 (tw H), ceO 5 bh [.ref bb], ceJ G bb 480 (tw K), ceI G so 160 f]) F zd_CR_remove_49 zw_661 zw_663 zw_662 zw_17 2 rfl ⟨by omega, by omega, by omega⟩ (by omega) (by omega) (by decide) (Nat.le_of_ble_eq_true rfl) (by decide) (by decide) rfl ?_
  refine vv_aload_n F zd_CR_remove_52 rfl 0 rfl ?_
  refine vv_callV (q0 := 0) (As := []) (rest := []) (wr := [ceI G a1 400 (va_cpy f1 f1 (v + 1).toNat v.toNat ((mm - 1) - v).toNat), ceI G a2 400 (va_cpy f2 f2 (v + 1).toNat v.toNat ((mm - 1) - v).toNat)]) F (cn_CR_forgetSteps l G cr a1 a2 st o w hs sb T ah ab bh bb so tk fl rn sr lr nv (mm - 1) H K f ⟨by omega, by omega⟩) zm_CR_forgetSteps ⟨zw_195, zs_CR_forgetSteps⟩ zw_193 zd_CR_remove_53 ⟨by decide, by decide⟩ ⟨by decide, by decide⟩ [0, 3, 4, 5, 6, 7, 8, 9, 10] [1, 2] rfl rfl ⟨rfl, rfl, by decide⟩ rfl rfl rfl rfl (Nat.le_of_ble_eq_true rfl) (vv_then (ws' := [ceO 1 cr [.ref a1, .ref a2, .ref st, .ref o, .ref w, .ref hs, .int (iI 0), .int (iI (-1)), .int (iI (bZ false)), .int (iI sr), .int (iI lr), .int (iI nv), .int (iI (mm - 1))], ceI G a1 400 (va_cpy f1 f1 (v + 1).toNat v.toNat ((mm - 1) - v).toNat), ceI G a2 400 (va_cpy f2 f2 (v + 1).toNat v.toNat ((mm - 1) - v).toNat), ceO 5 st [.ref sb], ceJ G sb 480 (tw (fun _ _ => false)), ceO 4 o [.ref ah, .ref bh, .ref so], ceO 5 ah [.ref ab], ceJ G ab 480 (tw (idB (2 * nv).toNat)), ceO 5 bh [.ref bb], ceJ G bb 480 (tw (idB (2 * nv).toNat)), ceI G so 160 f]) (st' := []) [2, 0, 1, 3, 4, 5, 6, 7, 8, 9, 10] rfl rfl rfl ?_)
  exact vv_vret F zd_CR_remove_56 ⟨rfl, rfl⟩

set_option maxHeartbeats 4000000 in
set_option maxRecDepth 100000 in
theorem cn_CR_takeIn (l : Launch) (G : vv_G) (cr : Nat) (a1 : Nat) (a2 : Nat) (st : Nat) (o : Nat) (w : Nat) (hs : Nat) (sb : Nat) (T : Nat → Nat → Bool) (ah : Nat) (ab : Nat) (bh : Nat) (bb : Nat) (so : Nat) (tk : Int) (fl : Int) (rn : Bool) (sr : Int) (lr : Int) (nv : Int) (mm : Int) (H : Nat → Nat → Bool) (K : Nat → Nat → Bool) (f : Nat → Int) (f1 : Nat → Int) (f2 : Nat → Int) (k : Int) (hI : rowI nv.toNat f1 f2 mm k fl T H K) (hk : k < mm) (hnv : 0 ≤ nv) :
    vv_C l zy_CR_takeIn zc_CR_takeIn 4 none { frames := 4, cells := 0, slots := 0, locals := 94 } G [.ref cr, .int (iI k)] [ceO 1 cr [.ref a1, .ref a2, .ref st, .ref o, .ref w, .ref hs, .int (iI tk), .int (iI fl), .int (iI (bZ rn)), .int (iI sr), .int (iI lr), .int (iI nv), .int (iI mm)], ceI G a1 400 f1, ceI G a2 400 f2, ceO 5 st [.ref sb], ceJ G sb 480 (tw T), ceO 4 o [.ref ah, .ref bh, .ref so], ceO 5 ah [.ref ab], ceJ G ab 480 (tw H), ceO 5 bh [.ref bb], ceJ G bb 480 (tw K), ceI G so 160 f] (fun v7 w7 => ∃ (fl2 : Int) (T2 : Nat → Nat → Bool) (H2 : Nat → Nat → Bool) (K2 : Nat → Nat → Bool) (f3 : Nat → Int), (rowI nv.toNat f1 f2 mm (k + 1) fl2 T2 H2 K2) ∧ v7 = none ∧ w7 = [ceO 1 cr [.ref a1, .ref a2, .ref st, .ref o, .ref w, .ref hs, .int (iI tk), .int (iI fl2), .int (iI (bZ rn)), .int (iI sr), .int (iI lr), .int (iI nv), .int (iI mm)], ceI G a1 400 f1, ceI G a2 400 f2, ceO 5 st [.ref sb], ceJ G sb 480 (tw T2), ceO 4 o [.ref ah, .ref bh, .ref so], ceO 5 ah [.ref ab], ceJ G ab 480 (tw H2), ceO 5 bh [.ref bb], ceJ G bb 480 (tw K2), ceI G so 160 f3]) := by
  refine vv_met (by decide +kernel) (Nat.le_of_ble_eq_true rfl) rfl ?_
  intro p e s m args below meth c A F
  obtain ⟨i1, i2, i3, i4, i5, i6⟩ := id hI
  have j0 := i3 k.toNat (by omega)
  have j1 : opp (f1 k.toNat).toNat < 160 := by have := opp_lt (p := (f1 k.toNat).toNat) (n := nv.toNat) (by omega); omega
  have j2 : opp (f2 k.toNat).toNat < 160 := by have := opp_lt (p := (f2 k.toNat).toNat) (n := nv.toNat) (by omega); omega
  have wH := (cl_wf i6 (by omega)).1
  have wK := (cl_wf i6 (by omega)).2
  have j3 : -1 ≤ fl ∧ fl ≤ 400 := by rcases i5 with ⟨q, -⟩ | ⟨q, q1, q2, q3, -⟩ <;> omega
  refine vv_aload_n F zd_CR_takeIn_0 rfl 0 rfl ?_
  refine vv_get F zd_CR_takeIn_1 zf_CR 0 rfl rfl 0 (by decide) zw_199 rfl ?_
  refine vv_iload_n F zd_CR_takeIn_4 rfl 1 rfl ?_
  refine vv_iald F zd_CR_takeIn_5 1 rfl ⟨by omega, by omega⟩ (by decide) ?_
  refine vv_istore_n (lv' := [(0, .ref cr), (1, .int (iI k)), (2, .int (iI (f1 k.toNat)))]) F zd_CR_takeIn_6 rfl (by decide) [1, 2, 0] rfl ?_
  refine vv_aload_n F zd_CR_takeIn_7 rfl 0 rfl ?_
  refine vv_get F zd_CR_takeIn_8 zf_CR 0 rfl rfl 1 (by decide) zw_200 rfl ?_
  refine vv_iload_n F zd_CR_takeIn_11 rfl 1 rfl ?_
  refine vv_iald F zd_CR_takeIn_12 2 rfl ⟨by omega, by omega⟩ (by decide) ?_
  refine vv_istore_n (lv' := [(0, .ref cr), (1, .int (iI k)), (2, .int (iI (f1 k.toNat))), (3, .int (iI (f2 k.toNat)))]) F zd_CR_takeIn_13 rfl (by decide) [1, 2, 3, 0] rfl ?_
  refine vv_aload_n F zd_CR_takeIn_14 rfl 0 rfl ?_
  refine vv_get F zd_CR_takeIn_15 zf_CR 0 rfl rfl 2 (by decide) zw_201 rfl ?_
  refine vv_iload_n F zd_CR_takeIn_18 rfl 2 rfl ?_
  refine vv_callSN (As := [.int (iI (f1 k.toNat))]) (rest := [.ref st]) (wr := [ceO 1 cr [.ref a1, .ref a2, .ref st, .ref o, .ref w, .ref hs, .int (iI tk), .int (iI fl), .int (iI (bZ rn)), .int (iI sr), .int (iI lr), .int (iI nv), .int (iI mm)], ceI G a1 400 f1, ceI G a2 400 f2, ceO 5 st [.ref sb], ceJ G sb 480 (tw T), ceO 4 o [.ref ah, .ref bh, .ref so], ceO 5 ah [.ref ab], ceJ G ab 480 (tw H), ceO 5 bh [.ref bb], ceJ G bb 480 (tw K), ceI G so 160 f]) F (cn_CG_opposite l G (f1 k.toNat) ⟨by omega, by omega⟩) zm_CG_opposite zw_368 zx_367 zd_CR_takeIn_19 ⟨by decide, by decide⟩ ⟨by decide, by decide⟩ [] [0, 1, 2, 3, 4, 5, 6, 7, 8, 9, 10] rfl rfl ⟨rfl, rfl, by decide⟩ rfl rfl (Nat.le_of_ble_eq_true rfl) (vv_then (ws' := [ceO 1 cr [.ref a1, .ref a2, .ref st, .ref o, .ref w, .ref hs, .int (iI tk), .int (iI fl), .int (iI (bZ rn)), .int (iI sr), .int (iI lr), .int (iI nv), .int (iI mm)], ceI G a1 400 f1, ceI G a2 400 f2, ceO 5 st [.ref sb], ceJ G sb 480 (tw T), ceO 4 o [.ref ah, .ref bh, .ref so], ceO 5 ah [.ref ab], ceJ G ab 480 (tw H), ceO 5 bh [.ref bb], ceJ G bb 480 (tw K), ceI G so 160 f]) (st' := [.int (iI (opp (f1 k.toNat).toNat : Int)), .ref st]) [0, 1, 2, 3, 4, 5, 6, 7, 8, 9, 10] rfl rfl rfl ?_)
  refine vv_iload_n F zd_CR_takeIn_22 rfl 3 rfl ?_
  refine vv_callV (q0 := 3) (As := [.int (iI (opp (f1 k.toNat).toNat : Int)), .int (iI (f2 k.toNat))]) (rest := []) (wr := [ceO 1 cr [.ref a1, .ref a2, .ref st, .ref o, .ref w, .ref hs, .int (iI tk), .int (iI fl), .int (iI (bZ rn)), .int (iI sr), .int (iI lr), .int (iI nv), .int (iI mm)], ceI G a1 400 f1, ceI G a2 400 f2, ceO 4 o [.ref ah, .ref bh, .ref so], ceO 5 ah [.ref ab], ceJ G ab 480 (tw H), ceO 5 bh [.ref bb], ceJ G bb 480 (tw K), ceI G so 160 f]) F (cn_TA_put l G st sb 480 T (opp (f1 k.toNat).toNat : Int) (f2 k.toNat) ⟨by omega, by omega⟩ ⟨by omega, by omega⟩ (by omega)) zm_TA_put ⟨zw_109, zw_110⟩ zw_370 zd_CR_takeIn_23 ⟨by decide, by decide⟩ ⟨by decide, by decide⟩ [3, 4] [0, 1, 2, 5, 6, 7, 8, 9, 10] rfl rfl ⟨rfl, rfl, by decide⟩ rfl rfl rfl rfl (Nat.le_of_ble_eq_true rfl) (vv_then (ws' := [ceO 1 cr [.ref a1, .ref a2, .ref st, .ref o, .ref w, .ref hs, .int (iI tk), .int (iI fl), .int (iI (bZ rn)), .int (iI sr), .int (iI lr), .int (iI nv), .int (iI mm)], ceI G a1 400 f1, ceI G a2 400 f2, ceO 5 st [.ref sb], ceJ G sb 480 (tw (bP T (opp (f1 k.toNat).toNat : Int).toNat (f2 k.toNat).toNat true)), ceO 4 o [.ref ah, .ref bh, .ref so], ceO 5 ah [.ref ab], ceJ G ab 480 (tw H), ceO 5 bh [.ref bb], ceJ G bb 480 (tw K), ceI G so 160 f]) (st' := []) [0, 1, 2, 9, 10, 3, 4, 5, 6, 7, 8] rfl rfl rfl ?_)
  refine vv_aload_n F zd_CR_takeIn_26 rfl 0 rfl ?_
  refine vv_get F zd_CR_takeIn_27 zf_CR 0 rfl rfl 2 (by decide) zw_201 rfl ?_
  refine vv_iload_n F zd_CR_takeIn_30 rfl 3 rfl ?_
  refine vv_callSN (As := [.int (iI (f2 k.toNat))]) (rest := [.ref st]) (wr := [ceO 1 cr [.ref a1, .ref a2, .ref st, .ref o, .ref w, .ref hs, .int (iI tk), .int (iI fl), .int (iI (bZ rn)), .int (iI sr), .int (iI lr), .int (iI nv), .int (iI mm)], ceI G a1 400 f1, ceI G a2 400 f2, ceO 5 st [.ref sb], ceJ G sb 480 (tw (bP T (opp (f1 k.toNat).toNat : Int).toNat (f2 k.toNat).toNat true)), ceO 4 o [.ref ah, .ref bh, .ref so], ceO 5 ah [.ref ab], ceJ G ab 480 (tw H), ceO 5 bh [.ref bb], ceJ G bb 480 (tw K), ceI G so 160 f]) F (cn_CG_opposite l G (f2 k.toNat) ⟨by omega, by omega⟩) zm_CG_opposite zw_368 zx_367 zd_CR_takeIn_31 ⟨by decide, by decide⟩ ⟨by decide, by decide⟩ [] [0, 1, 2, 3, 4, 5, 6, 7, 8, 9, 10] rfl rfl ⟨rfl, rfl, by decide⟩ rfl rfl (Nat.le_of_ble_eq_true rfl) (vv_then (ws' := [ceO 1 cr [.ref a1, .ref a2, .ref st, .ref o, .ref w, .ref hs, .int (iI tk), .int (iI fl), .int (iI (bZ rn)), .int (iI sr), .int (iI lr), .int (iI nv), .int (iI mm)], ceI G a1 400 f1, ceI G a2 400 f2, ceO 5 st [.ref sb], ceJ G sb 480 (tw (bP T (opp (f1 k.toNat).toNat : Int).toNat (f2 k.toNat).toNat true)), ceO 4 o [.ref ah, .ref bh, .ref so], ceO 5 ah [.ref ab], ceJ G ab 480 (tw H), ceO 5 bh [.ref bb], ceJ G bb 480 (tw K), ceI G so 160 f]) (st' := [.int (iI (opp (f2 k.toNat).toNat : Int)), .ref st]) [0, 1, 2, 3, 4, 5, 6, 7, 8, 9, 10] rfl rfl rfl ?_)
  refine vv_iload_n F zd_CR_takeIn_34 rfl 2 rfl ?_
  refine vv_callV (q0 := 3) (As := [.int (iI (opp (f2 k.toNat).toNat : Int)), .int (iI (f1 k.toNat))]) (rest := []) (wr := [ceO 1 cr [.ref a1, .ref a2, .ref st, .ref o, .ref w, .ref hs, .int (iI tk), .int (iI fl), .int (iI (bZ rn)), .int (iI sr), .int (iI lr), .int (iI nv), .int (iI mm)], ceI G a1 400 f1, ceI G a2 400 f2, ceO 4 o [.ref ah, .ref bh, .ref so], ceO 5 ah [.ref ab], ceJ G ab 480 (tw H), ceO 5 bh [.ref bb], ceJ G bb 480 (tw K), ceI G so 160 f]) F (cn_TA_put l G st sb 480 (bP T (opp (f1 k.toNat).toNat : Int).toNat (f2 k.toNat).toNat true) (opp (f2 k.toNat).toNat : Int) (f1 k.toNat) ⟨by omega, by omega⟩ ⟨by omega, by omega⟩ (by omega)) zm_TA_put ⟨zw_109, zw_110⟩ zw_370 zd_CR_takeIn_35 ⟨by decide, by decide⟩ ⟨by decide, by decide⟩ [3, 4] [0, 1, 2, 5, 6, 7, 8, 9, 10] rfl rfl ⟨rfl, rfl, by decide⟩ rfl rfl rfl rfl (Nat.le_of_ble_eq_true rfl) (vv_then (ws' := [ceO 1 cr [.ref a1, .ref a2, .ref st, .ref o, .ref w, .ref hs, .int (iI tk), .int (iI fl), .int (iI (bZ rn)), .int (iI sr), .int (iI lr), .int (iI nv), .int (iI mm)], ceI G a1 400 f1, ceI G a2 400 f2, ceO 5 st [.ref sb], ceJ G sb 480 (tw (bP (bP T (opp (f1 k.toNat).toNat : Int).toNat (f2 k.toNat).toNat true) (opp (f2 k.toNat).toNat : Int).toNat (f1 k.toNat).toNat true)), ceO 4 o [.ref ah, .ref bh, .ref so], ceO 5 ah [.ref ab], ceJ G ab 480 (tw H), ceO 5 bh [.ref bb], ceJ G bb 480 (tw K), ceI G so 160 f]) (st' := []) [0, 1, 2, 9, 10, 3, 4, 5, 6, 7, 8] rfl rfl rfl ?_)
  refine vv_aload_n F zd_CR_takeIn_38 rfl 0 rfl ?_
  refine vv_get F zd_CR_takeIn_39 zf_CR 0 rfl rfl 7 (by decide) zw_206 rfl ?_
  refine vv_iconst F zd_CR_takeIn_42 ?_
  refine vv_icmp_eq (tgt := 47) F zd_CR_takeIn_43 rfl (by first | exact ⟨by omega, by omega⟩) (by decide) (fun h1 => ?_) (fun h1 => ?_)
  · refine vv_aload_n F zd_CR_takeIn_47 rfl 0 rfl ?_
    refine vv_get F zd_CR_takeIn_48 zf_CR 0 rfl rfl 3 (by decide) zw_202 rfl ?_
    refine vv_iload_n F zd_CR_takeIn_51 rfl 2 rfl ?_
    refine vv_callSN (As := [.int (iI (f1 k.toNat))]) (rest := [.ref o]) (wr := [ceO 1 cr [.ref a1, .ref a2, .ref st, .ref o, .ref w, .ref hs, .int (iI tk), .int (iI fl), .int (iI (bZ rn)), .int (iI sr), .int (iI lr), .int (iI nv), .int (iI mm)], ceI G a1 400 f1, ceI G a2 400 f2, ceO 5 st [.ref sb], ceJ G sb 480 (tw (bP (bP T (opp (f1 k.toNat).toNat : Int).toNat (f2 k.toNat).toNat true) (opp (f2 k.toNat).toNat : Int).toNat (f1 k.toNat).toNat true)), ceO 4 o [.ref ah, .ref bh, .ref so], ceO 5 ah [.ref ab], ceJ G ab 480 (tw H), ceO 5 bh [.ref bb], ceJ G bb 480 (tw K), ceI G so 160 f]) F (cn_CG_opposite l G (f1 k.toNat) ⟨by omega, by omega⟩) zm_CG_opposite zw_368 zx_367 zd_CR_takeIn_52 ⟨by decide, by decide⟩ ⟨by decide, by decide⟩ [] [0, 1, 2, 3, 4, 5, 6, 7, 8, 9, 10] rfl rfl ⟨rfl, rfl, by decide⟩ rfl rfl (Nat.le_of_ble_eq_true rfl) (vv_then (ws' := [ceO 1 cr [.ref a1, .ref a2, .ref st, .ref o, .ref w, .ref hs, .int (iI tk), .int (iI fl), .int (iI (bZ rn)), .int (iI sr), .int (iI lr), .int (iI nv), .int (iI mm)], ceI G a1 400 f1, ceI G a2 400 f2, ceO 5 st [.ref sb], ceJ G sb 480 (tw (bP (bP T (opp (f1 k.toNat).toNat : Int).toNat (f2 k.toNat).toNat true) (opp (f2 k.toNat).toNat : Int).toNat (f1 k.toNat).toNat true)), ceO 4 o [.ref ah, .ref bh, .ref so], ceO 5 ah [.ref ab], ceJ G ab 480 (tw H), ceO 5 bh [.ref bb], ceJ G bb 480 (tw K), ceI G so 160 f]) (st' := [.int (iI (opp (f1 k.toNat).toNat : Int)), .ref o]) [0, 1, 2, 3, 4, 5, 6, 7, 8, 9, 10] rfl rfl rfl ?_)
    refine vv_iload_n F zd_CR_takeIn_55 rfl 3 rfl ?_
    refine vv_callV (q0 := 5) (As := [.int (iI (opp (f1 k.toNat).toNat : Int)), .int (iI (f2 k.toNat))]) (rest := []) (wr := [ceO 1 cr [.ref a1, .ref a2, .ref st, .ref o, .ref w, .ref hs, .int (iI tk), .int (iI fl), .int (iI (bZ rn)), .int (iI sr), .int (iI lr), .int (iI nv), .int (iI mm)], ceI G a1 400 f1, ceI G a2 400 f2, ceO 5 st [.ref sb], ceJ G sb 480 (tw (bP (bP T (opp (f1 k.toNat).toNat : Int).toNat (f2 k.toNat).toNat true) (opp (f2 k.toNat).toNat : Int).toNat (f1 k.toNat).toNat true))]) F (cn_RE_lead l G o ah ab bh bb so H K f (opp (f1 k.toNat).toNat : Int) (f2 k.toNat) (by first | exact wH | assumption) (by first | exact wK | assumption) ⟨by omega, by omega⟩ ⟨by omega, by omega⟩) zm_RE_lead ⟨zw_283, zw_284⟩ zw_371 zd_CR_takeIn_56 ⟨by decide, by decide⟩ ⟨by decide, by decide⟩ [5, 6, 7, 8, 9, 10] [0, 1, 2, 3, 4] rfl rfl ⟨rfl, rfl, by decide⟩ rfl rfl rfl rfl (Nat.le_of_ble_eq_true rfl) (fun v9 w9 hp9 => ?_)
    obtain ⟨f2_1, rfl, rfl⟩ := hp9
    refine vv_thenE (ws' := [ceO 1 cr [.ref a1, .ref a2, .ref st, .ref o, .ref w, .ref hs, .int (iI tk), .int (iI fl), .int (iI (bZ rn)), .int (iI sr), .int (iI lr), .int (iI nv), .int (iI mm)], ceI G a1 400 f1, ceI G a2 400 f2, ceO 5 st [.ref sb], ceJ G sb 480 (tw (bP (bP T (opp (f1 k.toNat).toNat : Int).toNat (f2 k.toNat).toNat true) (opp (f2 k.toNat).toNat : Int).toNat (f1 k.toNat).toNat true)), ceO 4 o [.ref ah, .ref bh, .ref so], ceO 5 ah [.ref ab], ceJ G ab 480 (tw (ldA H K (opp (f1 k.toNat).toNat : Int).toNat (f2 k.toNat).toNat)), ceO 5 bh [.ref bb], ceJ G bb 480 (tw (ldB H K (opp (f1 k.toNat).toNat : Int).toNat (f2 k.toNat).toNat)), ceI G so 160 f2_1]) (st' := []) (kc' := 0) (ks' := 0) [0, 1, 2, 3, 4, 5, 6, 7, 8, 9, 10] rfl rfl rfl ?_
    refine vv_aload_n F zd_CR_takeIn_59 rfl 0 rfl ?_
    refine vv_get F zd_CR_takeIn_60 zf_CR 0 rfl rfl 3 (by decide) zw_202 rfl ?_
    refine vv_iload_n F zd_CR_takeIn_63 rfl 3 rfl ?_
    refine vv_callSN (As := [.int (iI (f2 k.toNat))]) (rest := [.ref o]) (wr := [ceO 1 cr [.ref a1, .ref a2, .ref st, .ref o, .ref w, .ref hs, .int (iI tk), .int (iI fl), .int (iI (bZ rn)), .int (iI sr), .int (iI lr), .int (iI nv), .int (iI mm)], ceI G a1 400 f1, ceI G a2 400 f2, ceO 5 st [.ref sb], ceJ G sb 480 (tw (bP (bP T (opp (f1 k.toNat).toNat : Int).toNat (f2 k.toNat).toNat true) (opp (f2 k.toNat).toNat : Int).toNat (f1 k.toNat).toNat true)), ceO 4 o [.ref ah, .ref bh, .ref so], ceO 5 ah [.ref ab], ceJ G ab 480 (tw (ldA H K (opp (f1 k.toNat).toNat : Int).toNat (f2 k.toNat).toNat)), ceO 5 bh [.ref bb], ceJ G bb 480 (tw (ldB H K (opp (f1 k.toNat).toNat : Int).toNat (f2 k.toNat).toNat)), ceI G so 160 f2_1]) F (cn_CG_opposite l G (f2 k.toNat) ⟨by omega, by omega⟩) zm_CG_opposite zw_368 zx_367 zd_CR_takeIn_64 ⟨by decide, by decide⟩ ⟨by decide, by decide⟩ [] [0, 1, 2, 3, 4, 5, 6, 7, 8, 9, 10] rfl rfl ⟨rfl, rfl, by decide⟩ rfl rfl (Nat.le_of_ble_eq_true rfl) (vv_then (ws' := [ceO 1 cr [.ref a1, .ref a2, .ref st, .ref o, .ref w, .ref hs, .int (iI tk), .int (iI fl), .int (iI (bZ rn)), .int (iI sr), .int (iI lr), .int (iI nv), .int (iI mm)], ceI G a1 400 f1, ceI G a2 400 f2, ceO 5 st [.ref sb], ceJ G sb 480 (tw (bP (bP T (opp (f1 k.toNat).toNat : Int).toNat (f2 k.toNat).toNat true) (opp (f2 k.toNat).toNat : Int).toNat (f1 k.toNat).toNat true)), ceO 4 o [.ref ah, .ref bh, .ref so], ceO 5 ah [.ref ab], ceJ G ab 480 (tw (ldA H K (opp (f1 k.toNat).toNat : Int).toNat (f2 k.toNat).toNat)), ceO 5 bh [.ref bb], ceJ G bb 480 (tw (ldB H K (opp (f1 k.toNat).toNat : Int).toNat (f2 k.toNat).toNat)), ceI G so 160 f2_1]) (st' := [.int (iI (opp (f2 k.toNat).toNat : Int)), .ref o]) [0, 1, 2, 3, 4, 5, 6, 7, 8, 9, 10] rfl rfl rfl ?_)
    refine vv_iload_n F zd_CR_takeIn_67 rfl 2 rfl ?_
    refine vv_callV (q0 := 5) (As := [.int (iI (opp (f2 k.toNat).toNat : Int)), .int (iI (f1 k.toNat))]) (rest := []) (wr := [ceO 1 cr [.ref a1, .ref a2, .ref st, .ref o, .ref w, .ref hs, .int (iI tk), .int (iI fl), .int (iI (bZ rn)), .int (iI sr), .int (iI lr), .int (iI nv), .int (iI mm)], ceI G a1 400 f1, ceI G a2 400 f2, ceO 5 st [.ref sb], ceJ G sb 480 (tw (bP (bP T (opp (f1 k.toNat).toNat : Int).toNat (f2 k.toNat).toNat true) (opp (f2 k.toNat).toNat : Int).toNat (f1 k.toNat).toNat true))]) F (cn_RE_lead l G o ah ab bh bb so (ldA H K (opp (f1 k.toNat).toNat : Int).toNat (f2 k.toNat).toNat) (ldB H K (opp (f1 k.toNat).toNat : Int).toNat (f2 k.toNat).toNat) f2_1 (opp (f2 k.toNat).toNat : Int) (f1 k.toNat) (ldA_wf wH wK) (ldB_wf wH wK) ⟨by omega, by omega⟩ ⟨by omega, by omega⟩) zm_RE_lead ⟨zw_283, zw_284⟩ zw_371 zd_CR_takeIn_68 ⟨by decide, by decide⟩ ⟨by decide, by decide⟩ [5, 6, 7, 8, 9, 10] [0, 1, 2, 3, 4] rfl rfl ⟨rfl, rfl, by decide⟩ rfl rfl rfl rfl (Nat.le_of_ble_eq_true rfl) (fun v9 w9 hp9 => ?_)
    obtain ⟨f2_2, rfl, rfl⟩ := hp9
    refine vv_thenE (ws' := [ceO 1 cr [.ref a1, .ref a2, .ref st, .ref o, .ref w, .ref hs, .int (iI tk), .int (iI fl), .int (iI (bZ rn)), .int (iI sr), .int (iI lr), .int (iI nv), .int (iI mm)], ceI G a1 400 f1, ceI G a2 400 f2, ceO 5 st [.ref sb], ceJ G sb 480 (tw (bP (bP T (opp (f1 k.toNat).toNat : Int).toNat (f2 k.toNat).toNat true) (opp (f2 k.toNat).toNat : Int).toNat (f1 k.toNat).toNat true)), ceO 4 o [.ref ah, .ref bh, .ref so], ceO 5 ah [.ref ab], ceJ G ab 480 (tw (ldA (ldA H K (opp (f1 k.toNat).toNat : Int).toNat (f2 k.toNat).toNat) (ldB H K (opp (f1 k.toNat).toNat : Int).toNat (f2 k.toNat).toNat) (opp (f2 k.toNat).toNat : Int).toNat (f1 k.toNat).toNat)), ceO 5 bh [.ref bb], ceJ G bb 480 (tw (ldB (ldA H K (opp (f1 k.toNat).toNat : Int).toNat (f2 k.toNat).toNat) (ldB H K (opp (f1 k.toNat).toNat : Int).toNat (f2 k.toNat).toNat) (opp (f2 k.toNat).toNat : Int).toNat (f1 k.toNat).toNat)), ceI G so 160 f2_2]) (st' := []) (kc' := 0) (ks' := 0) [0, 1, 2, 3, 4, 5, 6, 7, 8, 9, 10] rfl rfl rfl ?_
    refine vv_aload_n F zd_CR_takeIn_71 rfl 0 rfl ?_
    refine vv_get F zd_CR_takeIn_72 zf_CR 0 rfl rfl 3 (by decide) zw_202 rfl ?_
    refine vv_iload_n F zd_CR_takeIn_75 rfl 2 rfl ?_
    refine vv_iload_n F zd_CR_takeIn_76 rfl 2 rfl ?_
    refine vv_callSN (As := [.int (iI (f1 k.toNat))]) (rest := [.int (iI (f1 k.toNat)), .ref o]) (wr := [ceO 1 cr [.ref a1, .ref a2, .ref st, .ref o, .ref w, .ref hs, .int (iI tk), .int (iI fl), .int (iI (bZ rn)), .int (iI sr), .int (iI lr), .int (iI nv), .int (iI mm)], ceI G a1 400 f1, ceI G a2 400 f2, ceO 5 st [.ref sb], ceJ G sb 480 (tw (bP (bP T (opp (f1 k.toNat).toNat : Int).toNat (f2 k.toNat).toNat true) (opp (f2 k.toNat).toNat : Int).toNat (f1 k.toNat).toNat true)), ceO 4 o [.ref ah, .ref bh, .ref so], ceO 5 ah [.ref ab], ceJ G ab 480 (tw (ldA (ldA H K (opp (f1 k.toNat).toNat : Int).toNat (f2 k.toNat).toNat) (ldB H K (opp (f1 k.toNat).toNat : Int).toNat (f2 k.toNat).toNat) (opp (f2 k.toNat).toNat : Int).toNat (f1 k.toNat).toNat)), ceO 5 bh [.ref bb], ceJ G bb 480 (tw (ldB (ldA H K (opp (f1 k.toNat).toNat : Int).toNat (f2 k.toNat).toNat) (ldB H K (opp (f1 k.toNat).toNat : Int).toNat (f2 k.toNat).toNat) (opp (f2 k.toNat).toNat : Int).toNat (f1 k.toNat).toNat)), ceI G so 160 f2_2]) F (cn_CG_opposite l G (f1 k.toNat) ⟨by omega, by omega⟩) zm_CG_opposite zw_368 zx_367 zd_CR_takeIn_77 ⟨by decide, by decide⟩ ⟨by decide, by decide⟩ [] [0, 1, 2, 3, 4, 5, 6, 7, 8, 9, 10] rfl rfl ⟨rfl, rfl, by decide⟩ rfl rfl (Nat.le_of_ble_eq_true rfl) (vv_then (ws' := [ceO 1 cr [.ref a1, .ref a2, .ref st, .ref o, .ref w, .ref hs, .int (iI tk), .int (iI fl), .int (iI (bZ rn)), .int (iI sr), .int (iI lr), .int (iI nv), .int (iI mm)], ceI G a1 400 f1, ceI G a2 400 f2, ceO 5 st [.ref sb], ceJ G sb 480 (tw (bP (bP T (opp (f1 k.toNat).toNat : Int).toNat (f2 k.toNat).toNat true) (opp (f2 k.toNat).toNat : Int).toNat (f1 k.toNat).toNat true)), ceO 4 o [.ref ah, .ref bh, .ref so], ceO 5 ah [.ref ab], ceJ G ab 480 (tw (ldA (ldA H K (opp (f1 k.toNat).toNat : Int).toNat (f2 k.toNat).toNat) (ldB H K (opp (f1 k.toNat).toNat : Int).toNat (f2 k.toNat).toNat) (opp (f2 k.toNat).toNat : Int).toNat (f1 k.toNat).toNat)), ceO 5 bh [.ref bb], ceJ G bb 480 (tw (ldB (ldA H K (opp (f1 k.toNat).toNat : Int).toNat (f2 k.toNat).toNat) (ldB H K (opp (f1 k.toNat).toNat : Int).toNat (f2 k.toNat).toNat) (opp (f2 k.toNat).toNat : Int).toNat (f1 k.toNat).toNat)), ceI G so 160 f2_2]) (st' := [.int (iI (opp (f1 k.toNat).toNat : Int)), .int (iI (f1 k.toNat)), .ref o]) [0, 1, 2, 3, 4, 5, 6, 7, 8, 9, 10] rfl rfl rfl ?_)
    refine vv_callV (q0 := 5) (As := [.int (iI (f1 k.toNat)), .int (iI (opp (f1 k.toNat).toNat : Int))]) (rest := []) (wr := [ceO 1 cr [.ref a1, .ref a2, .ref st, .ref o, .ref w, .ref hs, .int (iI tk), .int (iI fl), .int (iI (bZ rn)), .int (iI sr), .int (iI lr), .int (iI nv), .int (iI mm)], ceI G a1 400 f1, ceI G a2 400 f2, ceO 5 st [.ref sb], ceJ G sb 480 (tw (bP (bP T (opp (f1 k.toNat).toNat : Int).toNat (f2 k.toNat).toNat true) (opp (f2 k.toNat).toNat : Int).toNat (f1 k.toNat).toNat true))]) F (cn_RE_inOneKnot l G o ah ab bh bb so (ldA (ldA H K (opp (f1 k.toNat).toNat : Int).toNat (f2 k.toNat).toNat) (ldB H K (opp (f1 k.toNat).toNat : Int).toNat (f2 k.toNat).toNat) (opp (f2 k.toNat).toNat : Int).toNat (f1 k.toNat).toNat) (ldB (ldA H K (opp (f1 k.toNat).toNat : Int).toNat (f2 k.toNat).toNat) (ldB H K (opp (f1 k.toNat).toNat : Int).toNat (f2 k.toNat).toNat) (opp (f2 k.toNat).toNat : Int).toNat (f1 k.toNat).toNat) f2_2 (f1 k.toNat) (opp (f1 k.toNat).toNat : Int) ⟨by omega, by omega⟩ ⟨by omega, by omega⟩) zm_RE_inOneKnot ⟨zw_333, zw_334⟩ zw_372 zd_CR_takeIn_80 ⟨by decide, by decide⟩ ⟨by decide, by decide⟩ [5, 6, 7, 8, 9, 10] [0, 1, 2, 3, 4] rfl rfl ⟨rfl, rfl, by decide⟩ rfl rfl rfl rfl (Nat.le_of_ble_eq_true rfl) (vv_then (ws' := [ceO 1 cr [.ref a1, .ref a2, .ref st, .ref o, .ref w, .ref hs, .int (iI tk), .int (iI fl), .int (iI (bZ rn)), .int (iI sr), .int (iI lr), .int (iI nv), .int (iI mm)], ceI G a1 400 f1, ceI G a2 400 f2, ceO 5 st [.ref sb], ceJ G sb 480 (tw (bP (bP T (opp (f1 k.toNat).toNat : Int).toNat (f2 k.toNat).toNat true) (opp (f2 k.toNat).toNat : Int).toNat (f1 k.toNat).toNat true)), ceO 4 o [.ref ah, .ref bh, .ref so], ceO 5 ah [.ref ab], ceJ G ab 480 (tw (ldA (ldA H K (opp (f1 k.toNat).toNat : Int).toNat (f2 k.toNat).toNat) (ldB H K (opp (f1 k.toNat).toNat : Int).toNat (f2 k.toNat).toNat) (opp (f2 k.toNat).toNat : Int).toNat (f1 k.toNat).toNat)), ceO 5 bh [.ref bb], ceJ G bb 480 (tw (ldB (ldA H K (opp (f1 k.toNat).toNat : Int).toNat (f2 k.toNat).toNat) (ldB H K (opp (f1 k.toNat).toNat : Int).toNat (f2 k.toNat).toNat) (opp (f2 k.toNat).toNat : Int).toNat (f1 k.toNat).toNat)), ceI G so 160 f2_2]) (st' := [.int (iI (bZ ((ldA (ldA H K (opp (f1 k.toNat).toNat : Int).toNat (f2 k.toNat).toNat) (ldB H K (opp (f1 k.toNat).toNat : Int).toNat (f2 k.toNat).toNat) (opp (f2 k.toNat).toNat : Int).toNat (f1 k.toNat).toNat) (f1 k.toNat).toNat (opp (f1 k.toNat).toNat : Int).toNat && (ldB (ldA H K (opp (f1 k.toNat).toNat : Int).toNat (f2 k.toNat).toNat) (ldB H K (opp (f1 k.toNat).toNat : Int).toNat (f2 k.toNat).toNat) (opp (f2 k.toNat).toNat : Int).toNat (f1 k.toNat).toNat) (f1 k.toNat).toNat (opp (f1 k.toNat).toNat : Int).toNat)))]) [0, 1, 2, 3, 4, 5, 6, 7, 8, 9, 10] rfl rfl rfl ?_)
    refine vv_if_eq (tgt := 93) F zd_CR_takeIn_83 rfl (bZ_rg _) (fun h2 => ?_) (fun h2 => ?_)
    · have h2 : ((ldA (ldA H K (opp (f1 k.toNat).toNat : Int).toNat (f2 k.toNat).toNat) (ldB H K (opp (f1 k.toNat).toNat : Int).toNat (f2 k.toNat).toNat) (opp (f2 k.toNat).toNat : Int).toNat (f1 k.toNat).toNat) (f1 k.toNat).toNat (opp (f1 k.toNat).toNat : Int).toNat && (ldB (ldA H K (opp (f1 k.toNat).toNat : Int).toNat (f2 k.toNat).toNat) (ldB H K (opp (f1 k.toNat).toNat : Int).toNat (f2 k.toNat).toNat) (opp (f2 k.toNat).toNat : Int).toNat (f1 k.toNat).toNat) (f1 k.toNat).toNat (opp (f1 k.toNat).toNat : Int).toNat) = false := (bZ_0 _).mp h2
      exact vv_vret F zd_CR_takeIn_93 ⟨_, _, _, _, _, row_new (h1 ▸ hI) hk rfl rfl fl ⟨fun q => absurd (q.symm.trans h2) (by decide), fun _ => h1⟩, rfl, rfl⟩
    · have h2 : ((ldA (ldA H K (opp (f1 k.toNat).toNat : Int).toNat (f2 k.toNat).toNat) (ldB H K (opp (f1 k.toNat).toNat : Int).toNat (f2 k.toNat).toNat) (opp (f2 k.toNat).toNat : Int).toNat (f1 k.toNat).toNat) (f1 k.toNat).toNat (opp (f1 k.toNat).toNat : Int).toNat && (ldB (ldA H K (opp (f1 k.toNat).toNat : Int).toNat (f2 k.toNat).toNat) (ldB H K (opp (f1 k.toNat).toNat : Int).toNat (f2 k.toNat).toNat) (opp (f2 k.toNat).toNat : Int).toNat (f1 k.toNat).toNat) (f1 k.toNat).toNat (opp (f1 k.toNat).toNat : Int).toNat) = true := by cases hb9 : ((ldA (ldA H K (opp (f1 k.toNat).toNat : Int).toNat (f2 k.toNat).toNat) (ldB H K (opp (f1 k.toNat).toNat : Int).toNat (f2 k.toNat).toNat) (opp (f2 k.toNat).toNat : Int).toNat (f1 k.toNat).toNat) (f1 k.toNat).toNat (opp (f1 k.toNat).toNat : Int).toNat && (ldB (ldA H K (opp (f1 k.toNat).toNat : Int).toNat (f2 k.toNat).toNat) (ldB H K (opp (f1 k.toNat).toNat : Int).toNat (f2 k.toNat).toNat) (opp (f2 k.toNat).toNat : Int).toNat (f1 k.toNat).toNat) (f1 k.toNat).toNat (opp (f1 k.toNat).toNat : Int).toNat) with | true => rfl | false => exact absurd ((bZ_0 _).mpr hb9) h2
      refine vv_aload_n F zd_CR_takeIn_86 rfl 0 rfl ?_
      refine vv_iload_n F zd_CR_takeIn_87 rfl 1 rfl ?_
      refine vv_iconst F zd_CR_takeIn_88 ?_
      refine vv_iadd F zd_CR_takeIn_89 ?_
      refine vv_put (v := .int (iI (k + 1))) (ws' := [ceO 1 cr [.ref a1, .ref a2, .ref st, .ref o, .ref w, .ref hs, .int (iI tk), .int (iI (k + 1)), .int (iI (bZ rn)), .int (iI sr), .int (iI lr), .int (iI nv), .int (iI mm)], ceI G a1 400 f1, ceI G a2 400 f2, ceO 5 st [.ref sb], ceJ G sb 480 (tw (bP (bP T (opp (f1 k.toNat).toNat : Int).toNat (f2 k.toNat).toNat true) (opp (f2 k.toNat).toNat : Int).toNat (f1 k.toNat).toNat true)), ceO 4 o [.ref ah, .ref bh, .ref so], ceO 5 ah [.ref ab], ceJ G ab 480 (tw (ldA (ldA H K (opp (f1 k.toNat).toNat : Int).toNat (f2 k.toNat).toNat) (ldB H K (opp (f1 k.toNat).toNat : Int).toNat (f2 k.toNat).toNat) (opp (f2 k.toNat).toNat : Int).toNat (f1 k.toNat).toNat)), ceO 5 bh [.ref bb], ceJ G bb 480 (tw (ldB (ldA H K (opp (f1 k.toNat).toNat : Int).toNat (f2 k.toNat).toNat) (ldB H K (opp (f1 k.toNat).toNat : Int).toNat (f2 k.toNat).toNat) (opp (f2 k.toNat).toNat : Int).toNat (f1 k.toNat).toNat)), ceI G so 160 f2_2]) F zd_CR_takeIn_90 zf_CR zt_CR_ok zn_CR 0 rfl rfl 7 (by decide) zw_206 rfl rfl rfl (Nat.le_of_ble_eq_true rfl) rfl ?_
      exact vv_vret F zd_CR_takeIn_93 ⟨_, _, _, _, _, row_new (h1 ▸ hI) hk rfl rfl (k + 1) ⟨fun _ => rfl, fun q => absurd (q.symm.trans h2) (by decide)⟩, rfl, rfl⟩
  · exact vv_vret F zd_CR_takeIn_46 ⟨_, _, _, _, _, row_old hI hk h1, rfl, rfl⟩

set_option maxHeartbeats 4000000 in
set_option maxRecDepth 100000 in
theorem lp_CR_fa {p : Program} {l : Launch} {e : Env} {s : State} {m : MethodId} {args : Array Value} {below : List Frame} {meth : Method} {c : Code} {A : Nat → Prop} {Q : State → Prop} {G : vv_G} (F : vv_F p s m args meth c zc_CR_failing "ClauseGraph$ClauseRow" "failing" (some .int) G A 2) (cr : Nat) (a1 : Nat) (a2 : Nat) (st : Nat) (o : Nat) (w : Nat) (hs : Nat) (sb : Nat) (ah : Nat) (ab : Nat) (bh : Nat) (bb : Nat) (so : Nat) (tk : Int) (rn : Bool) (sr : Int) (lr : Int) (nv : Int) (mm : Int) (f1 : Nat → Int) (f2 : Nat → Int) (hnv : 0 ≤ nv ∧ nv ≤ 80) (hm : 0 ≤ mm ∧ mm ≤ 400)
    (k : ∀ (fl : Int) (T : Nat → Nat → Bool) (H : Nat → Nat → Bool) (K : Nat → Nat → Bool) (f : Nat → Int), (0 ≤ mm ∧ rowI nv.toNat f1 f2 mm mm fl T H K) → vv_V p l e { frames := 5, cells := 0, slots := 0, locals := 117 } s m args below meth c G A 2 Q 24 [(0, .ref cr), (1, .int (iI mm))] [] [ceO 1 cr [.ref a1, .ref a2, .ref st, .ref o, .ref w, .ref hs, .int (iI tk), .int (iI fl), .int (iI (bZ rn)), .int (iI sr), .int (iI lr), .int (iI nv), .int (iI mm)], ceI G a1 400 f1, ceI G a2 400 f2, ceO 5 st [.ref sb], ceJ G sb 480 (tw T), ceO 4 o [.ref ah, .ref bh, .ref so], ceO 5 ah [.ref ab], ceJ G ab 480 (tw H), ceO 5 bh [.ref bb], ceJ G bb 480 (tw K), ceI G so 160 f] 0 0)  :
    ∀ (d : Nat) (i : Int) (fl : Int) (T : Nat → Nat → Bool) (H : Nat → Nat → Bool) (K : Nat → Nat → Bool) (f : Nat → Int), i + (d : Int) = mm → (0 ≤ i ∧ rowI nv.toNat f1 f2 mm i fl T H K) → vv_V p l e { frames := 5, cells := 0, slots := 0, locals := 117 } s m args below meth c G A 2 Q 5 [(0, .ref cr), (1, .int (iI i))] [] [ceO 1 cr [.ref a1, .ref a2, .ref st, .ref o, .ref w, .ref hs, .int (iI tk), .int (iI fl), .int (iI (bZ rn)), .int (iI sr), .int (iI lr), .int (iI nv), .int (iI mm)], ceI G a1 400 f1, ceI G a2 400 f2, ceO 5 st [.ref sb], ceJ G sb 480 (tw T), ceO 4 o [.ref ah, .ref bh, .ref so], ceO 5 ah [.ref ab], ceJ G ab 480 (tw H), ceO 5 bh [.ref bb], ceJ G bb 480 (tw K), ceI G so 160 f] 0 0 := by
  intro d
  induction d with
  | zero =>
    intro i fl T H K f hd hI
    have hz : i = mm := by omega
    subst hz
    refine vv_iload_n F zd_CR_failing_5 rfl 1 rfl ?_
    refine vv_aload_n F zd_CR_failing_6 rfl 0 rfl ?_
    refine vv_get F zd_CR_failing_7 zf_CR 0 rfl rfl 12 (by decide) zw_214 rfl ?_
    refine vv_icmp_ge (tgt := 24) F zd_CR_failing_10 rfl (by first | exact ⟨by omega, by omega⟩) (by first | exact ⟨by omega, by omega⟩) (fun _ => ?_) (fun h9 => absurd h9 (by omega))
    exact k fl T H K f hI
  | succ d ih =>
    intro i fl T H K f hd hI
    refine vv_iload_n F zd_CR_failing_5 rfl 1 rfl ?_
    refine vv_aload_n F zd_CR_failing_6 rfl 0 rfl ?_
    refine vv_get F zd_CR_failing_7 zf_CR 0 rfl rfl 12 (by decide) zw_214 rfl ?_
    refine vv_icmp_ge (tgt := 24) F zd_CR_failing_10 rfl (by first | exact ⟨by omega, by omega⟩) (by first | exact ⟨by omega, by omega⟩) (fun h9 => absurd h9 (by omega)) (fun _ => ?_)
    refine vv_aload_n F zd_CR_failing_13 rfl 0 rfl ?_
    refine vv_iload_n F zd_CR_failing_14 rfl 1 rfl ?_
    refine vv_callV (q0 := 0) (As := [.int (iI i)]) (rest := []) (wr := []) F (cn_CR_takeIn l G cr a1 a2 st o w hs sb T ah ab bh bb so tk fl rn sr lr nv mm H K f f1 f2 i hI.2 (by omega) (by omega)) zm_CR_takeIn ⟨zw_365, zs_CR_takeIn⟩ zw_363 zd_CR_failing_15 ⟨by decide, by decide⟩ ⟨by decide, by decide⟩ [0, 1, 2, 3, 4, 5, 6, 7, 8, 9, 10] [] rfl rfl ⟨rfl, rfl, by decide⟩ rfl rfl rfl rfl (Nat.le_of_ble_eq_true rfl) (fun v9 w9 hp9 => ?_)
    obtain ⟨fl2_1, T2_2, H2_3, K2_4, f3_5, hf1_0, rfl, rfl⟩ := hp9
    refine vv_thenE (ws' := [ceO 1 cr [.ref a1, .ref a2, .ref st, .ref o, .ref w, .ref hs, .int (iI tk), .int (iI fl2_1), .int (iI (bZ rn)), .int (iI sr), .int (iI lr), .int (iI nv), .int (iI mm)], ceI G a1 400 f1, ceI G a2 400 f2, ceO 5 st [.ref sb], ceJ G sb 480 (tw T2_2), ceO 4 o [.ref ah, .ref bh, .ref so], ceO 5 ah [.ref ab], ceJ G ab 480 (tw H2_3), ceO 5 bh [.ref bb], ceJ G bb 480 (tw K2_4), ceI G so 160 f3_5]) (st' := []) (kc' := 0) (ks' := 0) [0, 1, 2, 3, 4, 5, 6, 7, 8, 9, 10] rfl rfl rfl ?_
    refine vv_iinc (j := 1) (lv' := [(0, .ref cr), (1, .int (iI (i + 1)))]) F zd_CR_failing_18 rfl (by decide) [1, 0] rfl ?_
    refine vv_goto (tgt := 5) F zd_CR_failing_21 rfl ?_
    exact ih (i + 1) fl2_1 T2_2 H2_3 K2_4 f3_5 (by omega) (⟨by omega, hf1_0⟩)

set_option maxHeartbeats 4000000 in
set_option maxRecDepth 100000 in
theorem cn_CR_failing (l : Launch) (G : vv_G) (cr : Nat) (a1 : Nat) (a2 : Nat) (st : Nat) (o : Nat) (w : Nat) (hs : Nat) (sb : Nat) (T : Nat → Nat → Bool) (ah : Nat) (ab : Nat) (bh : Nat) (bb : Nat) (so : Nat) (tk : Int) (fl : Int) (rn : Bool) (sr : Int) (lr : Int) (nv : Int) (mm : Int) (H : Nat → Nat → Bool) (K : Nat → Nat → Bool) (f : Nat → Int) (f1 : Nat → Int) (f2 : Nat → Int) (hI : rowI nv.toNat f1 f2 mm tk fl T H K) (hnv : 0 ≤ nv) :
    vv_C l zy_CR_failing zc_CR_failing 2 (some .int) { frames := 5, cells := 0, slots := 0, locals := 117 } G [.ref cr] [ceO 1 cr [.ref a1, .ref a2, .ref st, .ref o, .ref w, .ref hs, .int (iI tk), .int (iI fl), .int (iI (bZ rn)), .int (iI sr), .int (iI lr), .int (iI nv), .int (iI mm)], ceI G a1 400 f1, ceI G a2 400 f2, ceO 5 st [.ref sb], ceJ G sb 480 (tw T), ceO 4 o [.ref ah, .ref bh, .ref so], ceO 5 ah [.ref ab], ceJ G ab 480 (tw H), ceO 5 bh [.ref bb], ceJ G bb 480 (tw K), ceI G so 160 f] (fun v7 w7 => ∃ (fl2 : Int) (T2 : Nat → Nat → Bool) (H2 : Nat → Nat → Bool) (K2 : Nat → Nat → Bool) (f3 : Nat → Int), (rowI nv.toNat f1 f2 mm mm fl2 T2 H2 K2) ∧ v7 = some (.int (iI fl2)) ∧ w7 = [ceO 1 cr [.ref a1, .ref a2, .ref st, .ref o, .ref w, .ref hs, .int (iI mm), .int (iI fl2), .int (iI (bZ rn)), .int (iI sr), .int (iI lr), .int (iI nv), .int (iI mm)], ceI G a1 400 f1, ceI G a2 400 f2, ceO 5 st [.ref sb], ceJ G sb 480 (tw T2), ceO 4 o [.ref ah, .ref bh, .ref so], ceO 5 ah [.ref ab], ceJ G ab 480 (tw H2), ceO 5 bh [.ref bb], ceJ G bb 480 (tw K2), ceI G so 160 f3]) := by
  refine vv_met (by decide +kernel) (Nat.le_of_ble_eq_true rfl) rfl ?_
  intro p e s m args below meth c A F
  refine vv_aload_n F zd_CR_failing_0 rfl 0 rfl ?_
  refine vv_get F zd_CR_failing_1 zf_CR 0 rfl rfl 6 (by decide) zw_205 rfl ?_
  refine vv_istore_n (lv' := [(0, .ref cr), (1, .int (iI tk))]) F zd_CR_failing_4 rfl (by decide) [1, 0] rfl ?_
  have i1 := hI.1; have i2 := hI.2.1
  refine lp_CR_fa F cr a1 a2 st o w hs sb ah ab bh bb so tk rn sr lr nv mm f1 f2 ⟨by omega, by omega⟩ ⟨by omega, by omega⟩ (fun fl2 T2 H2 K2 f3 hJ => ?_) (mm - tk).toNat tk fl T H K f (by omega) ⟨by omega, hI⟩
  refine vv_aload_n F zd_CR_failing_24 rfl 0 rfl ?_
  refine vv_aload_n F zd_CR_failing_25 rfl 0 rfl ?_
  refine vv_get F zd_CR_failing_26 zf_CR 0 rfl rfl 12 (by decide) zw_214 rfl ?_
  refine vv_put (v := .int (iI mm)) (ws' := [ceO 1 cr [.ref a1, .ref a2, .ref st, .ref o, .ref w, .ref hs, .int (iI mm), .int (iI fl2), .int (iI (bZ rn)), .int (iI sr), .int (iI lr), .int (iI nv), .int (iI mm)], ceI G a1 400 f1, ceI G a2 400 f2, ceO 5 st [.ref sb], ceJ G sb 480 (tw T2), ceO 4 o [.ref ah, .ref bh, .ref so], ceO 5 ah [.ref ab], ceJ G ab 480 (tw H2), ceO 5 bh [.ref bb], ceJ G bb 480 (tw K2), ceI G so 160 f3]) F zd_CR_failing_29 zf_CR zt_CR_ok zn_CR 0 rfl rfl 6 (by decide) zw_205 rfl rfl rfl (Nat.le_of_ble_eq_true rfl) rfl ?_
  refine vv_aload_n F zd_CR_failing_32 rfl 0 rfl ?_
  refine vv_get F zd_CR_failing_33 zf_CR 0 rfl rfl 7 (by decide) zw_206 rfl ?_
  exact vv_iret F zd_CR_failing_36 ⟨_, _, _, _, _, hJ.2, rfl, rfl⟩

set_option maxHeartbeats 4000000 in
set_option maxRecDepth 100000 in
theorem cn_CR_isTrueAlways (l : Launch) (G : vv_G) (cr : Nat) (a1 : Nat) (a2 : Nat) (st : Nat) (o : Nat) (w : Nat) (hs : Nat) (ah : Nat) (ab : Nat) (bh : Nat) (bb : Nat) (so : Nat) (tk : Int) (fl : Int) (rn : Bool) (sr : Int) (lr : Int) (nv : Int) (mm : Int) (H : Nat → Nat → Bool) (K : Nat → Nat → Bool) (f : Nat → Int) (u : Int) (hu : 0 ≤ u ∧ u < 160) :
    vv_D l zy_CR_isTrueAlways zc_CR_isTrueAlways 2 (some .boolean) { frames := 3, cells := 0, slots := 0, locals := 64 } G [.ref cr, .int (iI u)] [ceO 1 cr [.ref a1, .ref a2, .ref st, .ref o, .ref w, .ref hs, .int (iI tk), .int (iI fl), .int (iI (bZ rn)), .int (iI sr), .int (iI lr), .int (iI nv), .int (iI mm)], ceO 4 o [.ref ah, .ref bh, .ref so], ceO 5 ah [.ref ab], ceJ G ab 480 (tw H), ceO 5 bh [.ref bb], ceJ G bb 480 (tw K), ceI G so 160 f] (some (.int (iI (bZ (H (opp u.toNat) u.toNat))))) [ceO 1 cr [.ref a1, .ref a2, .ref st, .ref o, .ref w, .ref hs, .int (iI tk), .int (iI fl), .int (iI (bZ rn)), .int (iI sr), .int (iI lr), .int (iI nv), .int (iI mm)], ceO 4 o [.ref ah, .ref bh, .ref so], ceO 5 ah [.ref ab], ceJ G ab 480 (tw H), ceO 5 bh [.ref bb], ceJ G bb 480 (tw K), ceI G so 160 f] := by
  refine vv_met (by decide +kernel) (Nat.le_of_ble_eq_true rfl) rfl ?_
  intro p e s m args below meth c A F
  have j1 : opp u.toNat < 160 := by have := opp_lt (p := u.toNat) (n := 80) (by omega); omega
  refine vv_aload_n F zd_CR_isTrueAlways_0 rfl 0 rfl ?_
  refine vv_get F zd_CR_isTrueAlways_1 zf_CR 0 rfl rfl 3 (by decide) zw_202 rfl ?_
  refine vv_iload_n F zd_CR_isTrueAlways_4 rfl 1 rfl ?_
  refine vv_callSN (As := [.int (iI u)]) (rest := [.ref o]) (wr := [ceO 1 cr [.ref a1, .ref a2, .ref st, .ref o, .ref w, .ref hs, .int (iI tk), .int (iI fl), .int (iI (bZ rn)), .int (iI sr), .int (iI lr), .int (iI nv), .int (iI mm)], ceO 4 o [.ref ah, .ref bh, .ref so], ceO 5 ah [.ref ab], ceJ G ab 480 (tw H), ceO 5 bh [.ref bb], ceJ G bb 480 (tw K), ceI G so 160 f]) F (cn_CG_opposite l G u ⟨by omega, by omega⟩) zm_CG_opposite zw_368 zx_367 zd_CR_isTrueAlways_5 ⟨by decide, by decide⟩ ⟨by decide, by decide⟩ [] [0, 1, 2, 3, 4, 5, 6] rfl rfl ⟨rfl, rfl, by decide⟩ rfl rfl (Nat.le_of_ble_eq_true rfl) (vv_then (ws' := [ceO 1 cr [.ref a1, .ref a2, .ref st, .ref o, .ref w, .ref hs, .int (iI tk), .int (iI fl), .int (iI (bZ rn)), .int (iI sr), .int (iI lr), .int (iI nv), .int (iI mm)], ceO 4 o [.ref ah, .ref bh, .ref so], ceO 5 ah [.ref ab], ceJ G ab 480 (tw H), ceO 5 bh [.ref bb], ceJ G bb 480 (tw K), ceI G so 160 f]) (st' := [.int (iI (opp u.toNat : Int)), .ref o]) [0, 1, 2, 3, 4, 5, 6] rfl rfl rfl ?_)
  refine vv_iload_n F zd_CR_isTrueAlways_8 rfl 1 rfl ?_
  refine vv_callV (q0 := 1) (As := [.int (iI (opp u.toNat : Int)), .int (iI u)]) (rest := []) (wr := [ceO 1 cr [.ref a1, .ref a2, .ref st, .ref o, .ref w, .ref hs, .int (iI tk), .int (iI fl), .int (iI (bZ rn)), .int (iI sr), .int (iI lr), .int (iI nv), .int (iI mm)]]) F (cn_RE_leads l G o ah ab bh bb so H K f (opp u.toNat : Int) u ⟨by omega, by omega⟩ ⟨by omega, by omega⟩) zm_RE_leads ⟨zw_598, zw_599⟩ zw_706 zd_CR_isTrueAlways_9 ⟨by decide, by decide⟩ ⟨by decide, by decide⟩ [1, 2, 3, 4, 5, 6] [0] rfl rfl ⟨rfl, rfl, by decide⟩ rfl rfl rfl rfl (Nat.le_of_ble_eq_true rfl) (vv_then (ws' := [ceO 1 cr [.ref a1, .ref a2, .ref st, .ref o, .ref w, .ref hs, .int (iI tk), .int (iI fl), .int (iI (bZ rn)), .int (iI sr), .int (iI lr), .int (iI nv), .int (iI mm)], ceO 4 o [.ref ah, .ref bh, .ref so], ceO 5 ah [.ref ab], ceJ G ab 480 (tw H), ceO 5 bh [.ref bb], ceJ G bb 480 (tw K), ceI G so 160 f]) (st' := [.int (iI (bZ (H (opp u.toNat : Int).toNat u.toNat)))]) [0, 1, 2, 3, 4, 5, 6] rfl rfl rfl ?_)
  exact vv_zret F zd_CR_isTrueAlways_12 ⟨rfl, rfl⟩

set_option maxHeartbeats 4000000 in
set_option maxRecDepth 100000 in
theorem cn_CR_follows (l : Launch) (G : vv_G) (cr : Nat) (a1 : Nat) (a2 : Nat) (st : Nat) (o : Nat) (w : Nat) (hs : Nat) (ah : Nat) (ab : Nat) (bh : Nat) (bb : Nat) (so : Nat) (tk : Int) (fl : Int) (rn : Bool) (sr : Int) (lr : Int) (nv : Int) (mm : Int) (H : Nat → Nat → Bool) (K : Nat → Nat → Bool) (f : Nat → Int) (u : Int) (v : Int) (hu : 0 ≤ u ∧ u < 160) (hv : 0 ≤ v ∧ v < 160) :
    vv_D l zy_CR_follows zc_CR_follows 3 (some .boolean) { frames := 4, cells := 0, slots := 0, locals := 85 } G [.ref cr, .int (iI u), .int (iI v)] [ceO 1 cr [.ref a1, .ref a2, .ref st, .ref o, .ref w, .ref hs, .int (iI tk), .int (iI fl), .int (iI (bZ rn)), .int (iI sr), .int (iI lr), .int (iI nv), .int (iI mm)], ceO 4 o [.ref ah, .ref bh, .ref so], ceO 5 ah [.ref ab], ceJ G ab 480 (tw H), ceO 5 bh [.ref bb], ceJ G bb 480 (tw K), ceI G so 160 f] (some (.int (iI (bZ (H u.toNat v.toNat || (H u.toNat (opp u.toNat) || H (opp v.toNat) v.toNat)))))) [ceO 1 cr [.ref a1, .ref a2, .ref st, .ref o, .ref w, .ref hs, .int (iI tk), .int (iI fl), .int (iI (bZ rn)), .int (iI sr), .int (iI lr), .int (iI nv), .int (iI mm)], ceO 4 o [.ref ah, .ref bh, .ref so], ceO 5 ah [.ref ab], ceJ G ab 480 (tw H), ceO 5 bh [.ref bb], ceJ G bb 480 (tw K), ceI G so 160 f] := by
  refine vv_met (by decide +kernel) (Nat.le_of_ble_eq_true rfl) rfl ?_
  intro p e s m args below meth c A F
  have j1 : opp u.toNat < 160 := by have := opp_lt (p := u.toNat) (n := 80) (by omega); omega
  refine vv_aload_n F zd_CR_follows_0 rfl 0 rfl ?_
  refine vv_get F zd_CR_follows_1 zf_CR 0 rfl rfl 3 (by decide) zw_202 rfl ?_
  refine vv_iload_n F zd_CR_follows_4 rfl 1 rfl ?_
  refine vv_iload_n F zd_CR_follows_5 rfl 2 rfl ?_
  refine vv_callV (q0 := 1) (As := [.int (iI u), .int (iI v)]) (rest := []) (wr := [ceO 1 cr [.ref a1, .ref a2, .ref st, .ref o, .ref w, .ref hs, .int (iI tk), .int (iI fl), .int (iI (bZ rn)), .int (iI sr), .int (iI lr), .int (iI nv), .int (iI mm)]]) F (cn_RE_leads l G o ah ab bh bb so H K f u v ⟨by omega, by omega⟩ ⟨by omega, by omega⟩) zm_RE_leads ⟨zw_598, zw_599⟩ zw_706 zd_CR_follows_6 ⟨by decide, by decide⟩ ⟨by decide, by decide⟩ [1, 2, 3, 4, 5, 6] [0] rfl rfl ⟨rfl, rfl, by decide⟩ rfl rfl rfl rfl (Nat.le_of_ble_eq_true rfl) (vv_then (ws' := [ceO 1 cr [.ref a1, .ref a2, .ref st, .ref o, .ref w, .ref hs, .int (iI tk), .int (iI fl), .int (iI (bZ rn)), .int (iI sr), .int (iI lr), .int (iI nv), .int (iI mm)], ceO 4 o [.ref ah, .ref bh, .ref so], ceO 5 ah [.ref ab], ceJ G ab 480 (tw H), ceO 5 bh [.ref bb], ceJ G bb 480 (tw K), ceI G so 160 f]) (st' := [.int (iI (bZ (H u.toNat v.toNat)))]) [0, 1, 2, 3, 4, 5, 6] rfl rfl rfl ?_)
  refine vv_if_ne (tgt := 31) F zd_CR_follows_9 rfl (bZ_rg _) (fun h1 => ?_) (fun h1 => ?_)
  · have h1 : (H u.toNat v.toNat) = true := by cases hb9 : (H u.toNat v.toNat) with | true => rfl | false => exact absurd ((bZ_0 _).mpr hb9) h1
    refine vv_iconst F zd_CR_follows_31 ?_
    refine vv_goto (tgt := 36) F zd_CR_follows_32 rfl ?_
    exact vv_zret (v := true) F zd_CR_follows_36 ⟨by rw [h1]; rfl, rfl⟩
  · have h1 : (H u.toNat v.toNat) = false := (bZ_0 _).mp h1
    refine vv_aload_n F zd_CR_follows_12 rfl 0 rfl ?_
    refine vv_iload_n F zd_CR_follows_13 rfl 1 rfl ?_
    refine vv_callSN (As := [.int (iI u)]) (rest := [.ref cr]) (wr := [ceO 1 cr [.ref a1, .ref a2, .ref st, .ref o, .ref w, .ref hs, .int (iI tk), .int (iI fl), .int (iI (bZ rn)), .int (iI sr), .int (iI lr), .int (iI nv), .int (iI mm)], ceO 4 o [.ref ah, .ref bh, .ref so], ceO 5 ah [.ref ab], ceJ G ab 480 (tw H), ceO 5 bh [.ref bb], ceJ G bb 480 (tw K), ceI G so 160 f]) F (cn_CG_opposite l G u ⟨by omega, by omega⟩) zm_CG_opposite zw_368 zx_367 zd_CR_follows_14 ⟨by decide, by decide⟩ ⟨by decide, by decide⟩ [] [0, 1, 2, 3, 4, 5, 6] rfl rfl ⟨rfl, rfl, by decide⟩ rfl rfl (Nat.le_of_ble_eq_true rfl) (vv_then (ws' := [ceO 1 cr [.ref a1, .ref a2, .ref st, .ref o, .ref w, .ref hs, .int (iI tk), .int (iI fl), .int (iI (bZ rn)), .int (iI sr), .int (iI lr), .int (iI nv), .int (iI mm)], ceO 4 o [.ref ah, .ref bh, .ref so], ceO 5 ah [.ref ab], ceJ G ab 480 (tw H), ceO 5 bh [.ref bb], ceJ G bb 480 (tw K), ceI G so 160 f]) (st' := [.int (iI (opp u.toNat : Int)), .ref cr]) [0, 1, 2, 3, 4, 5, 6] rfl rfl rfl ?_)
    refine vv_callV (q0 := 0) (As := [.int (iI (opp u.toNat : Int))]) (rest := []) (wr := []) F (cn_CR_isTrueAlways l G cr a1 a2 st o w hs ah ab bh bb so tk fl rn sr lr nv mm H K f (opp u.toNat : Int) ⟨by omega, by omega⟩) zm_CR_isTrueAlways ⟨zw_703, zw_704⟩ zw_702 zd_CR_follows_17 ⟨by decide, by decide⟩ ⟨by decide, by decide⟩ [0, 1, 2, 3, 4, 5, 6] [] rfl rfl ⟨rfl, rfl, by decide⟩ rfl rfl rfl rfl (Nat.le_of_ble_eq_true rfl) (vv_then (ws' := [ceO 1 cr [.ref a1, .ref a2, .ref st, .ref o, .ref w, .ref hs, .int (iI tk), .int (iI fl), .int (iI (bZ rn)), .int (iI sr), .int (iI lr), .int (iI nv), .int (iI mm)], ceO 4 o [.ref ah, .ref bh, .ref so], ceO 5 ah [.ref ab], ceJ G ab 480 (tw H), ceO 5 bh [.ref bb], ceJ G bb 480 (tw K), ceI G so 160 f]) (st' := [.int (iI (bZ (H (opp (opp u.toNat : Int).toNat) (opp u.toNat : Int).toNat)))]) [0, 1, 2, 3, 4, 5, 6] rfl rfl rfl ?_)
    refine vv_if_ne (tgt := 31) F zd_CR_follows_20 rfl (bZ_rg _) (fun h2 => ?_) (fun h2 => ?_)
    · have h2 : (H (opp (opp u.toNat : Int).toNat) (opp u.toNat : Int).toNat) = true := by cases hb9 : (H (opp (opp u.toNat : Int).toNat) (opp u.toNat : Int).toNat) with | true => rfl | false => exact absurd ((bZ_0 _).mpr hb9) h2
      refine vv_iconst F zd_CR_follows_31 ?_
      refine vv_goto (tgt := 36) F zd_CR_follows_32 rfl ?_
      exact vv_zret (v := true) F zd_CR_follows_36 ⟨by simp only [Int.toNat_natCast, opp_opp] at h2; rw [h2]; simp, rfl⟩
    · have h2 : (H (opp (opp u.toNat : Int).toNat) (opp u.toNat : Int).toNat) = false := (bZ_0 _).mp h2
      refine vv_aload_n F zd_CR_follows_23 rfl 0 rfl ?_
      refine vv_iload_n F zd_CR_follows_24 rfl 2 rfl ?_
      refine vv_callV (q0 := 0) (As := [.int (iI v)]) (rest := []) (wr := []) F (cn_CR_isTrueAlways l G cr a1 a2 st o w hs ah ab bh bb so tk fl rn sr lr nv mm H K f v ⟨by omega, by omega⟩) zm_CR_isTrueAlways ⟨zw_703, zw_704⟩ zw_702 zd_CR_follows_25 ⟨by decide, by decide⟩ ⟨by decide, by decide⟩ [0, 1, 2, 3, 4, 5, 6] [] rfl rfl ⟨rfl, rfl, by decide⟩ rfl rfl rfl rfl (Nat.le_of_ble_eq_true rfl) (vv_then (ws' := [ceO 1 cr [.ref a1, .ref a2, .ref st, .ref o, .ref w, .ref hs, .int (iI tk), .int (iI fl), .int (iI (bZ rn)), .int (iI sr), .int (iI lr), .int (iI nv), .int (iI mm)], ceO 4 o [.ref ah, .ref bh, .ref so], ceO 5 ah [.ref ab], ceJ G ab 480 (tw H), ceO 5 bh [.ref bb], ceJ G bb 480 (tw K), ceI G so 160 f]) (st' := [.int (iI (bZ (H (opp v.toNat) v.toNat)))]) [0, 1, 2, 3, 4, 5, 6] rfl rfl rfl ?_)
      refine vv_if_eq (tgt := 35) F zd_CR_follows_28 rfl (bZ_rg _) (fun h3 => ?_) (fun h3 => ?_)
      · have h3 : (H (opp v.toNat) v.toNat) = false := (bZ_0 _).mp h3
        refine vv_iconst F zd_CR_follows_35 ?_
        exact vv_zret (v := false) F zd_CR_follows_36 ⟨by simp only [Int.toNat_natCast, opp_opp] at h2; rw [h1, h2, h3]; rfl, rfl⟩
      · have h3 : (H (opp v.toNat) v.toNat) = true := by cases hb9 : (H (opp v.toNat) v.toNat) with | true => rfl | false => exact absurd ((bZ_0 _).mpr hb9) h3
        refine vv_iconst F zd_CR_follows_31 ?_
        refine vv_goto (tgt := 36) F zd_CR_follows_32 rfl ?_
        exact vv_zret (v := true) F zd_CR_follows_36 ⟨by rw [h3]; simp, rfl⟩

set_option maxHeartbeats 4000000 in
set_option maxRecDepth 100000 in
theorem lp_CR_lv {p : Program} {l : Launch} {e : Env} {s : State} {m : MethodId} {args : Array Value} {below : List Frame} {meth : Method} {c : Code} {A : Nat → Prop} {Q : State → Prop} {G : vv_G} (F : vv_F p s m args meth c zc_CR_leastValue "ClauseGraph$ClauseRow" "leastValue" (some .int) G A 5) (cr : Nat) (a1 : Nat) (a2 : Nat) (st : Nat) (o : Nat) (w : Nat) (hs : Nat) (ah : Nat) (ab : Nat) (bh : Nat) (bb : Nat) (so : Nat) (hb : Nat) (tk : Int) (fl : Int) (rn : Bool) (sr : Int) (lr : Int) (nv : Int) (mm : Int) (H : Nat → Nat → Bool) (K : Nat → Nat → Bool) (f : Nat → Int) (v : Int) (wH : wfB H) (hv : 1 ≤ v ∧ v ≤ 80)
    (k : ∀ (Y : Nat → Nat → Bool), (1 ≤ (v + 1) ∧ ∀ y, Y 0 y = hlS H ((v + 1) - 1).toNat y) → vv_V p l e { frames := 4, cells := 0, slots := 0, locals := 85 } s m args below meth c G A 5 Q 81 [(0, .ref cr), (1, .int (iI v)), (2, .int (iI (v + 1)))] [] [ceO 1 cr [.ref a1, .ref a2, .ref st, .ref o, .ref w, .ref hs, .int (iI tk), .int (iI fl), .int (iI (bZ rn)), .int (iI sr), .int (iI lr), .int (iI nv), .int (iI mm)], ceO 4 o [.ref ah, .ref bh, .ref so], ceO 5 ah [.ref ab], ceJ G ab 480 (tw H), ceO 5 bh [.ref bb], ceJ G bb 480 (tw K), ceI G so 160 f, ceO 5 hs [.ref hb], ceJ G hb 3 (tw Y)] 0 0)  :
    ∀ (d : Nat) (i : Int) (Y : Nat → Nat → Bool), i + (d : Int) = (v + 1) → (1 ≤ i ∧ ∀ y, Y 0 y = hlS H (i - 1).toNat y) → vv_V p l e { frames := 4, cells := 0, slots := 0, locals := 85 } s m args below meth c G A 5 Q 9 [(0, .ref cr), (1, .int (iI v)), (2, .int (iI i))] [] [ceO 1 cr [.ref a1, .ref a2, .ref st, .ref o, .ref w, .ref hs, .int (iI tk), .int (iI fl), .int (iI (bZ rn)), .int (iI sr), .int (iI lr), .int (iI nv), .int (iI mm)], ceO 4 o [.ref ah, .ref bh, .ref so], ceO 5 ah [.ref ab], ceJ G ab 480 (tw H), ceO 5 bh [.ref bb], ceJ G bb 480 (tw K), ceI G so 160 f, ceO 5 hs [.ref hb], ceJ G hb 3 (tw Y)] 0 0 := by
  intro d
  induction d with
  | zero =>
    intro i Y hd hI
    have hz : i = (v + 1) := by omega
    subst hz
    refine vv_iload_n F zd_CR_leastValue_9 rfl 2 rfl ?_
    refine vv_iload_n F zd_CR_leastValue_10 rfl 1 rfl ?_
    refine vv_icmp_gt (tgt := 81) F zd_CR_leastValue_11 rfl (by first | exact ⟨by omega, by omega⟩) (by first | exact ⟨by omega, by omega⟩) (fun _ => ?_) (fun h9 => absurd h9 (by omega))
    exact k Y hI
  | succ d ih =>
    intro i Y hd hI
    have hpt := ptO_p (a := i) (by omega)
    have ht : (ptO i).toNat = 2 * (i - 1).toNat := by omega
    have ho : opp (ptO i).toNat = 2 * (i - 1).toNat + 1 := by rw [ht, opp_even]
    have e9 : (i + 1 - 1).toNat = (i - 1).toNat + 1 := by omega
    refine vv_iload_n F zd_CR_leastValue_9 rfl 2 rfl ?_
    refine vv_iload_n F zd_CR_leastValue_10 rfl 1 rfl ?_
    refine vv_icmp_gt (tgt := 81) F zd_CR_leastValue_11 rfl (by first | exact ⟨by omega, by omega⟩) (by first | exact ⟨by omega, by omega⟩) (fun h9 => absurd h9 (by omega)) (fun _ => ?_)
    refine vv_iload_n F zd_CR_leastValue_14 rfl 2 rfl ?_
    refine vv_callSN (As := [.int (iI i)]) (rest := []) (wr := [ceO 1 cr [.ref a1, .ref a2, .ref st, .ref o, .ref w, .ref hs, .int (iI tk), .int (iI fl), .int (iI (bZ rn)), .int (iI sr), .int (iI lr), .int (iI nv), .int (iI mm)], ceO 4 o [.ref ah, .ref bh, .ref so], ceO 5 ah [.ref ab], ceJ G ab 480 (tw H), ceO 5 bh [.ref bb], ceJ G bb 480 (tw K), ceI G so 160 f, ceO 5 hs [.ref hb], ceJ G hb 3 (tw Y)]) F (cn_CG_pointOf l G i ⟨by omega, by omega⟩) zm_CG_pointOf zw_391 zx_390 zd_CR_leastValue_15 ⟨by decide, by decide⟩ ⟨by decide, by decide⟩ [] [0, 1, 2, 3, 4, 5, 6, 7, 8] rfl rfl ⟨rfl, rfl, by decide⟩ rfl rfl (Nat.le_of_ble_eq_true rfl) (vv_then (ws' := [ceO 1 cr [.ref a1, .ref a2, .ref st, .ref o, .ref w, .ref hs, .int (iI tk), .int (iI fl), .int (iI (bZ rn)), .int (iI sr), .int (iI lr), .int (iI nv), .int (iI mm)], ceO 4 o [.ref ah, .ref bh, .ref so], ceO 5 ah [.ref ab], ceJ G ab 480 (tw H), ceO 5 bh [.ref bb], ceJ G bb 480 (tw K), ceI G so 160 f, ceO 5 hs [.ref hb], ceJ G hb 3 (tw Y)]) (st' := [.int (iI (ptO i))]) [0, 1, 2, 3, 4, 5, 6, 7, 8] rfl rfl rfl ?_)
    refine vv_istore_n (lv' := [(0, .ref cr), (1, .int (iI v)), (2, .int (iI i)), (3, .int (iI (ptO i)))]) F zd_CR_leastValue_18 rfl (by decide) [1, 2, 3, 0] rfl ?_
    refine vv_iload_n F zd_CR_leastValue_19 rfl 3 rfl ?_
    refine vv_callSN (As := [.int (iI (ptO i))]) (rest := []) (wr := [ceO 1 cr [.ref a1, .ref a2, .ref st, .ref o, .ref w, .ref hs, .int (iI tk), .int (iI fl), .int (iI (bZ rn)), .int (iI sr), .int (iI lr), .int (iI nv), .int (iI mm)], ceO 4 o [.ref ah, .ref bh, .ref so], ceO 5 ah [.ref ab], ceJ G ab 480 (tw H), ceO 5 bh [.ref bb], ceJ G bb 480 (tw K), ceI G so 160 f, ceO 5 hs [.ref hb], ceJ G hb 3 (tw Y)]) F (cn_CG_opposite l G (ptO i) ⟨by omega, by omega⟩) zm_CG_opposite zw_368 zx_367 zd_CR_leastValue_20 ⟨by decide, by decide⟩ ⟨by decide, by decide⟩ [] [0, 1, 2, 3, 4, 5, 6, 7, 8] rfl rfl ⟨rfl, rfl, by decide⟩ rfl rfl (Nat.le_of_ble_eq_true rfl) (vv_then (ws' := [ceO 1 cr [.ref a1, .ref a2, .ref st, .ref o, .ref w, .ref hs, .int (iI tk), .int (iI fl), .int (iI (bZ rn)), .int (iI sr), .int (iI lr), .int (iI nv), .int (iI mm)], ceO 4 o [.ref ah, .ref bh, .ref so], ceO 5 ah [.ref ab], ceJ G ab 480 (tw H), ceO 5 bh [.ref bb], ceJ G bb 480 (tw K), ceI G so 160 f, ceO 5 hs [.ref hb], ceJ G hb 3 (tw Y)]) (st' := [.int (iI (opp (ptO i).toNat : Int))]) [0, 1, 2, 3, 4, 5, 6, 7, 8] rfl rfl rfl ?_)
    refine vv_istore (lv' := [(0, .ref cr), (1, .int (iI v)), (2, .int (iI i)), (3, .int (iI (ptO i))), (4, .int (iI (opp (ptO i).toNat : Int)))]) F zd_CR_leastValue_23 (by decide) [1, 2, 3, 4, 0] rfl ?_
    refine vv_aload_n F zd_CR_leastValue_25 rfl 0 rfl ?_
    refine vv_get F zd_CR_leastValue_26 zf_CR 0 rfl rfl 5 (by decide) zw_204 rfl ?_
    refine vv_iconst F zd_CR_leastValue_29 ?_
    refine vv_iload_n F zd_CR_leastValue_30 rfl 3 rfl ?_
    refine vv_callV (q0 := 7) (As := [.int (iI 0), .int (iI (ptO i))]) (rest := []) (wr := [ceO 1 cr [.ref a1, .ref a2, .ref st, .ref o, .ref w, .ref hs, .int (iI tk), .int (iI fl), .int (iI (bZ rn)), .int (iI sr), .int (iI lr), .int (iI nv), .int (iI mm)], ceO 4 o [.ref ah, .ref bh, .ref so], ceO 5 ah [.ref ab], ceJ G ab 480 (tw H), ceO 5 bh [.ref bb], ceJ G bb 480 (tw K), ceI G so 160 f]) F (cn_TA_has l G hs hb 3 Y 0 (ptO i) ⟨by omega, by omega⟩ ⟨by omega, by omega⟩ (by omega)) zm_TA_has ⟨zw_287, zw_288⟩ zw_701 zd_CR_leastValue_31 ⟨by decide, by decide⟩ ⟨by decide, by decide⟩ [7, 8] [0, 1, 2, 3, 4, 5, 6] rfl rfl ⟨rfl, rfl, by decide⟩ rfl rfl rfl rfl (Nat.le_of_ble_eq_true rfl) (vv_then (ws' := [ceO 1 cr [.ref a1, .ref a2, .ref st, .ref o, .ref w, .ref hs, .int (iI tk), .int (iI fl), .int (iI (bZ rn)), .int (iI sr), .int (iI lr), .int (iI nv), .int (iI mm)], ceO 4 o [.ref ah, .ref bh, .ref so], ceO 5 ah [.ref ab], ceJ G ab 480 (tw H), ceO 5 bh [.ref bb], ceJ G bb 480 (tw K), ceI G so 160 f, ceO 5 hs [.ref hb], ceJ G hb 3 (tw Y)]) (st' := [.int (iI (bZ (Y 0 (ptO i).toNat)))]) [0, 1, 2, 3, 4, 5, 6, 7, 8] rfl rfl rfl ?_)
    refine vv_if_ne (tgt := 75) F zd_CR_leastValue_34 rfl (bZ_rg _) (fun h1 => ?_) (fun h1 => ?_)
    · have h1 : (Y 0 (ptO i).toNat) = true := by cases hb9 : (Y 0 (ptO i).toNat) with | true => rfl | false => exact absurd ((bZ_0 _).mpr hb9) h1
      refine vv_iinc (j := 2) (lv' := [(0, .ref cr), (1, .int (iI v)), (2, .int (iI (i + 1))), (3, .int (iI (ptO i))), (4, .int (iI (opp (ptO i).toNat : Int)))]) F zd_CR_leastValue_75 rfl (by decide) [1, 2, 0, 3, 4] rfl ?_
      refine vv_goto (tgt := 9) F zd_CR_leastValue_78 rfl ?_
      refine vv_locals (lv' := [(0, .ref cr), (1, .int (iI v)), (2, .int (iI (i + 1)))]) [0, 1, 2] rfl ?_
      exact ih (i + 1) Y (by omega) (⟨by omega, fun y => by
      have q9 := h1
      try rw [Int.toNat_natCast] at q9
      rw [e9]; unfold hlS
      rw [if_pos (by rw [← hI.2, ← hI.2, ← ho, ← ht]; simp [q9])]; exact hI.2 y⟩)
    · have h1 : (Y 0 (ptO i).toNat) = false := (bZ_0 _).mp h1
      refine vv_aload_n F zd_CR_leastValue_37 rfl 0 rfl ?_
      refine vv_get F zd_CR_leastValue_38 zf_CR 0 rfl rfl 5 (by decide) zw_204 rfl ?_
      refine vv_iconst F zd_CR_leastValue_41 ?_
      refine vv_iload F zd_CR_leastValue_42 4 rfl ?_
      refine vv_callV (q0 := 7) (As := [.int (iI 0), .int (iI (opp (ptO i).toNat : Int))]) (rest := []) (wr := [ceO 1 cr [.ref a1, .ref a2, .ref st, .ref o, .ref w, .ref hs, .int (iI tk), .int (iI fl), .int (iI (bZ rn)), .int (iI sr), .int (iI lr), .int (iI nv), .int (iI mm)], ceO 4 o [.ref ah, .ref bh, .ref so], ceO 5 ah [.ref ab], ceJ G ab 480 (tw H), ceO 5 bh [.ref bb], ceJ G bb 480 (tw K), ceI G so 160 f]) F (cn_TA_has l G hs hb 3 Y 0 (opp (ptO i).toNat : Int) ⟨by omega, by omega⟩ ⟨by omega, by omega⟩ (by omega)) zm_TA_has ⟨zw_287, zw_288⟩ zw_701 zd_CR_leastValue_44 ⟨by decide, by decide⟩ ⟨by decide, by decide⟩ [7, 8] [0, 1, 2, 3, 4, 5, 6] rfl rfl ⟨rfl, rfl, by decide⟩ rfl rfl rfl rfl (Nat.le_of_ble_eq_true rfl) (vv_then (ws' := [ceO 1 cr [.ref a1, .ref a2, .ref st, .ref o, .ref w, .ref hs, .int (iI tk), .int (iI fl), .int (iI (bZ rn)), .int (iI sr), .int (iI lr), .int (iI nv), .int (iI mm)], ceO 4 o [.ref ah, .ref bh, .ref so], ceO 5 ah [.ref ab], ceJ G ab 480 (tw H), ceO 5 bh [.ref bb], ceJ G bb 480 (tw K), ceI G so 160 f, ceO 5 hs [.ref hb], ceJ G hb 3 (tw Y)]) (st' := [.int (iI (bZ (Y 0 (opp (ptO i).toNat : Int).toNat)))]) [0, 1, 2, 3, 4, 5, 6, 7, 8] rfl rfl rfl ?_)
      refine vv_if_ne (tgt := 75) F zd_CR_leastValue_47 rfl (bZ_rg _) (fun h2 => ?_) (fun h2 => ?_)
      · have h2 : (Y 0 (opp (ptO i).toNat : Int).toNat) = true := by cases hb9 : (Y 0 (opp (ptO i).toNat : Int).toNat) with | true => rfl | false => exact absurd ((bZ_0 _).mpr hb9) h2
        refine vv_iinc (j := 2) (lv' := [(0, .ref cr), (1, .int (iI v)), (2, .int (iI (i + 1))), (3, .int (iI (ptO i))), (4, .int (iI (opp (ptO i).toNat : Int)))]) F zd_CR_leastValue_75 rfl (by decide) [1, 2, 0, 3, 4] rfl ?_
        refine vv_goto (tgt := 9) F zd_CR_leastValue_78 rfl ?_
        refine vv_locals (lv' := [(0, .ref cr), (1, .int (iI v)), (2, .int (iI (i + 1)))]) [0, 1, 2] rfl ?_
        exact ih (i + 1) Y (by omega) (⟨by omega, fun y => by
      have q9 := h2
      try rw [Int.toNat_natCast] at q9
      rw [e9]; unfold hlS
      rw [if_pos (by rw [← hI.2, ← hI.2, ← ho, ← ht]; simp [q9])]; exact hI.2 y⟩)
      · have h2 : (Y 0 (opp (ptO i).toNat : Int).toNat) = false := (bZ_0 _).mp h2
        refine vv_aload_n F zd_CR_leastValue_50 rfl 0 rfl ?_
        refine vv_get F zd_CR_leastValue_51 zf_CR 0 rfl rfl 3 (by decide) zw_202 rfl ?_
        refine vv_aload_n F zd_CR_leastValue_54 rfl 0 rfl ?_
        refine vv_iload_n F zd_CR_leastValue_55 rfl 3 rfl ?_
        refine vv_callV (q0 := 0) (As := [.int (iI (ptO i))]) (rest := [.ref o]) (wr := [ceO 5 hs [.ref hb], ceJ G hb 3 (tw Y)]) F (cn_CR_isTrueAlways l G cr a1 a2 st o w hs ah ab bh bb so tk fl rn sr lr nv mm H K f (ptO i) ⟨by omega, by omega⟩) zm_CR_isTrueAlways ⟨zw_703, zw_704⟩ zw_702 zd_CR_leastValue_56 ⟨by decide, by decide⟩ ⟨by decide, by decide⟩ [0, 1, 2, 3, 4, 5, 6] [7, 8] rfl rfl ⟨rfl, rfl, by decide⟩ rfl rfl rfl rfl (Nat.le_of_ble_eq_true rfl) (vv_then (ws' := [ceO 1 cr [.ref a1, .ref a2, .ref st, .ref o, .ref w, .ref hs, .int (iI tk), .int (iI fl), .int (iI (bZ rn)), .int (iI sr), .int (iI lr), .int (iI nv), .int (iI mm)], ceO 4 o [.ref ah, .ref bh, .ref so], ceO 5 ah [.ref ab], ceJ G ab 480 (tw H), ceO 5 bh [.ref bb], ceJ G bb 480 (tw K), ceI G so 160 f, ceO 5 hs [.ref hb], ceJ G hb 3 (tw Y)]) (st' := [.int (iI (bZ (H (opp (ptO i).toNat) (ptO i).toNat))), .ref o]) [2, 3, 4, 5, 6, 7, 8, 0, 1] rfl rfl rfl ?_)
        refine vv_if_eq (tgt := 66) F zd_CR_leastValue_59 rfl (bZ_rg _) (fun h3 => ?_) (fun h3 => ?_)
        · have h3 : (H (opp (ptO i).toNat) (ptO i).toNat) = false := (bZ_0 _).mp h3
          refine vv_iload F zd_CR_leastValue_66 4 rfl ?_
          refine vv_aload_n F zd_CR_leastValue_68 rfl 0 rfl ?_
          refine vv_get F zd_CR_leastValue_69 zf_CR 0 rfl rfl 5 (by decide) zw_204 rfl ?_
          refine vv_callV (q0 := 1) (As := [.int (iI (opp (ptO i).toNat : Int)), .ref hs]) (rest := []) (wr := [ceO 1 cr [.ref a1, .ref a2, .ref st, .ref o, .ref w, .ref hs, .int (iI tk), .int (iI fl), .int (iI (bZ rn)), .int (iI sr), .int (iI lr), .int (iI nv), .int (iI mm)]]) F (cn_RE_joinAhead l G o ah ab bh bb so H K f (opp (ptO i).toNat : Int) hs hb Y ⟨by omega, by omega⟩) zm_RE_joinAhead ⟨zw_708, zw_709⟩ zw_707 zd_CR_leastValue_72 ⟨by decide, by decide⟩ ⟨by decide, by decide⟩ [1, 2, 3, 4, 5, 6, 7, 8] [0] rfl rfl ⟨rfl, rfl, by decide⟩ rfl rfl rfl rfl (Nat.le_of_ble_eq_true rfl) (vv_then (ws' := [ceO 1 cr [.ref a1, .ref a2, .ref st, .ref o, .ref w, .ref hs, .int (iI tk), .int (iI fl), .int (iI (bZ rn)), .int (iI sr), .int (iI lr), .int (iI nv), .int (iI mm)], ceO 4 o [.ref ah, .ref bh, .ref so], ceO 5 ah [.ref ab], ceJ G ab 480 (tw H), ceO 5 bh [.ref bb], ceJ G bb 480 (tw K), ceI G so 160 f, ceO 5 hs [.ref hb], ceJ G hb 3 (tw (jB Y 0 H (opp (ptO i).toNat : Int).toNat 3))]) (st' := []) [0, 1, 2, 3, 4, 5, 6, 7, 8] rfl rfl rfl ?_)
          refine vv_iinc (j := 2) (lv' := [(0, .ref cr), (1, .int (iI v)), (2, .int (iI (i + 1))), (3, .int (iI (ptO i))), (4, .int (iI (opp (ptO i).toNat : Int)))]) F zd_CR_leastValue_75 rfl (by decide) [1, 2, 0, 3, 4] rfl ?_
          refine vv_goto (tgt := 9) F zd_CR_leastValue_78 rfl ?_
          refine vv_locals (lv' := [(0, .ref cr), (1, .int (iI v)), (2, .int (iI (i + 1)))]) [0, 1, 2] rfl ?_
          exact ih (i + 1) (jB Y 0 H (opp (ptO i).toNat : Int).toNat 3) (by omega) (⟨by omega, fun y => by
      have q2 := h2
      rw [Int.toNat_natCast] at q2
      have hg : ¬ (hlS H (i - 1).toNat (2 * (i - 1).toNat) || hlS H (i - 1).toNat (2 * (i - 1).toNat + 1)) = true := by rw [← hI.2, ← hI.2, ← ho, ← ht]; simp [h1, q2]
      have hb3 : H (2 * (i - 1).toNat + 1) (2 * (i - 1).toNat) = false := by rw [← ho, ← ht]; exact h3
      rw [e9]; unfold hlS
      rw [if_neg hg, hb3, ← hI.2 y]
      show jB Y 0 H (opp (ptO i).toNat) 3 0 y = _
      unfold jB
      by_cases z : y < 64 * 3
      · rw [if_pos ⟨rfl, z⟩]; simp [ho]
      · rw [if_neg (by omega)]
        have hz : ∀ x, H x y = false := fun x => by cases q : H x y with | false => rfl | true => have := (wH x y q).2; omega
        rw [hz]; simp⟩)
        · have h3 : (H (opp (ptO i).toNat) (ptO i).toNat) = true := by cases hb9 : (H (opp (ptO i).toNat) (ptO i).toNat) with | true => rfl | false => exact absurd ((bZ_0 _).mpr hb9) h3
          refine vv_iload_n F zd_CR_leastValue_62 rfl 3 rfl ?_
          refine vv_goto (tgt := 68) F zd_CR_leastValue_63 rfl ?_
          refine vv_aload_n F zd_CR_leastValue_68 rfl 0 rfl ?_
          refine vv_get F zd_CR_leastValue_69 zf_CR 0 rfl rfl 5 (by decide) zw_204 rfl ?_
          refine vv_callV (q0 := 1) (As := [.int (iI (ptO i)), .ref hs]) (rest := []) (wr := [ceO 1 cr [.ref a1, .ref a2, .ref st, .ref o, .ref w, .ref hs, .int (iI tk), .int (iI fl), .int (iI (bZ rn)), .int (iI sr), .int (iI lr), .int (iI nv), .int (iI mm)]]) F (cn_RE_joinAhead l G o ah ab bh bb so H K f (ptO i) hs hb Y ⟨by omega, by omega⟩) zm_RE_joinAhead ⟨zw_708, zw_709⟩ zw_707 zd_CR_leastValue_72 ⟨by decide, by decide⟩ ⟨by decide, by decide⟩ [1, 2, 3, 4, 5, 6, 7, 8] [0] rfl rfl ⟨rfl, rfl, by decide⟩ rfl rfl rfl rfl (Nat.le_of_ble_eq_true rfl) (vv_then (ws' := [ceO 1 cr [.ref a1, .ref a2, .ref st, .ref o, .ref w, .ref hs, .int (iI tk), .int (iI fl), .int (iI (bZ rn)), .int (iI sr), .int (iI lr), .int (iI nv), .int (iI mm)], ceO 4 o [.ref ah, .ref bh, .ref so], ceO 5 ah [.ref ab], ceJ G ab 480 (tw H), ceO 5 bh [.ref bb], ceJ G bb 480 (tw K), ceI G so 160 f, ceO 5 hs [.ref hb], ceJ G hb 3 (tw (jB Y 0 H (ptO i).toNat 3))]) (st' := []) [0, 1, 2, 3, 4, 5, 6, 7, 8] rfl rfl rfl ?_)
          refine vv_iinc (j := 2) (lv' := [(0, .ref cr), (1, .int (iI v)), (2, .int (iI (i + 1))), (3, .int (iI (ptO i))), (4, .int (iI (opp (ptO i).toNat : Int)))]) F zd_CR_leastValue_75 rfl (by decide) [1, 2, 0, 3, 4] rfl ?_
          refine vv_goto (tgt := 9) F zd_CR_leastValue_78 rfl ?_
          refine vv_locals (lv' := [(0, .ref cr), (1, .int (iI v)), (2, .int (iI (i + 1)))]) [0, 1, 2] rfl ?_
          exact ih (i + 1) (jB Y 0 H (ptO i).toNat 3) (by omega) (⟨by omega, fun y => by
      have q2 := h2
      rw [Int.toNat_natCast] at q2
      have hg : ¬ (hlS H (i - 1).toNat (2 * (i - 1).toNat) || hlS H (i - 1).toNat (2 * (i - 1).toNat + 1)) = true := by rw [← hI.2, ← hI.2, ← ho, ← ht]; simp [h1, q2]
      have hb3 : H (2 * (i - 1).toNat + 1) (2 * (i - 1).toNat) = true := by rw [← ho, ← ht]; exact h3
      rw [e9]; unfold hlS
      rw [if_neg hg, hb3, ← hI.2 y]
      show jB Y 0 H (ptO i).toNat 3 0 y = _
      unfold jB
      by_cases z : y < 64 * 3
      · rw [if_pos ⟨rfl, z⟩]; simp [ht]
      · rw [if_neg (by omega)]
        have hz : ∀ x, H x y = false := fun x => by cases q : H x y with | false => rfl | true => have := (wH x y q).2; omega
        rw [hz]; simp⟩)

set_option maxHeartbeats 4000000 in
set_option maxRecDepth 100000 in
theorem cn_CR_leastValue (l : Launch) (G : vv_G) (cr : Nat) (a1 : Nat) (a2 : Nat) (st : Nat) (o : Nat) (w : Nat) (hs : Nat) (ah : Nat) (ab : Nat) (bh : Nat) (bb : Nat) (so : Nat) (hb : Nat) (tk : Int) (fl : Int) (rn : Bool) (sr : Int) (lr : Int) (nv : Int) (mm : Int) (H : Nat → Nat → Bool) (K : Nat → Nat → Bool) (f : Nat → Int) (v : Int) (Y : Nat → Nat → Bool) (wH : wfB H) (hv : 1 ≤ v ∧ v ≤ 80) :
    vv_C l zy_CR_leastValue zc_CR_leastValue 5 (some .int) { frames := 4, cells := 0, slots := 0, locals := 85 } G [.ref cr, .int (iI v)] [ceO 1 cr [.ref a1, .ref a2, .ref st, .ref o, .ref w, .ref hs, .int (iI tk), .int (iI fl), .int (iI (bZ rn)), .int (iI sr), .int (iI lr), .int (iI nv), .int (iI mm)], ceO 4 o [.ref ah, .ref bh, .ref so], ceO 5 ah [.ref ab], ceJ G ab 480 (tw H), ceO 5 bh [.ref bb], ceJ G bb 480 (tw K), ceI G so 160 f, ceO 5 hs [.ref hb], ceJ G hb 3 (tw Y)] (fun v7 w7 => ∃ (Y2 : Nat → Nat → Bool), v7 = some (.int (iI (bZ (hlS H v.toNat (2 * v.toNat - 2))))) ∧ w7 = [ceO 1 cr [.ref a1, .ref a2, .ref st, .ref o, .ref w, .ref hs, .int (iI tk), .int (iI fl), .int (iI (bZ rn)), .int (iI sr), .int (iI lr), .int (iI nv), .int (iI mm)], ceO 4 o [.ref ah, .ref bh, .ref so], ceO 5 ah [.ref ab], ceJ G ab 480 (tw H), ceO 5 bh [.ref bb], ceJ G bb 480 (tw K), ceI G so 160 f, ceO 5 hs [.ref hb], ceJ G hb 3 (tw Y2)]) := by
  refine vv_met (by decide +kernel) (Nat.le_of_ble_eq_true rfl) rfl ?_
  intro p e s m args below meth c A F
  refine vv_aload_n F zd_CR_leastValue_0 rfl 0 rfl ?_
  refine vv_get F zd_CR_leastValue_1 zf_CR 0 rfl rfl 5 (by decide) zw_204 rfl ?_
  refine vv_callV (q0 := 7) (As := []) (rest := []) (wr := [ceO 1 cr [.ref a1, .ref a2, .ref st, .ref o, .ref w, .ref hs, .int (iI tk), .int (iI fl), .int (iI (bZ rn)), .int (iI sr), .int (iI lr), .int (iI nv), .int (iI mm)], ceO 4 o [.ref ah, .ref bh, .ref so], ceO 5 ah [.ref ab], ceJ G ab 480 (tw H), ceO 5 bh [.ref bb], ceJ G bb 480 (tw K), ceI G so 160 f]) F (cn_TA_wipe l G hs hb 3 Y (by omega)) zm_TA_wipe ⟨zw_97, zw_98⟩ zw_197 zd_CR_leastValue_4 ⟨by decide, by decide⟩ ⟨by decide, by decide⟩ [7, 8] [0, 1, 2, 3, 4, 5, 6] rfl rfl ⟨rfl, rfl, by decide⟩ rfl rfl rfl rfl (Nat.le_of_ble_eq_true rfl) (vv_then (ws' := [ceO 1 cr [.ref a1, .ref a2, .ref st, .ref o, .ref w, .ref hs, .int (iI tk), .int (iI fl), .int (iI (bZ rn)), .int (iI sr), .int (iI lr), .int (iI nv), .int (iI mm)], ceO 4 o [.ref ah, .ref bh, .ref so], ceO 5 ah [.ref ab], ceJ G ab 480 (tw H), ceO 5 bh [.ref bb], ceJ G bb 480 (tw K), ceI G so 160 f, ceO 5 hs [.ref hb], ceJ G hb 3 (tw (fun _ _ => false))]) (st' := []) [0, 1, 2, 3, 4, 5, 6, 7, 8] rfl rfl rfl ?_)
  refine vv_iconst F zd_CR_leastValue_7 ?_
  refine vv_istore_n (lv' := [(0, .ref cr), (1, .int (iI v)), (2, .int (iI 1))]) F zd_CR_leastValue_8 rfl (by decide) [1, 2, 0] rfl ?_
  refine lp_CR_lv F cr a1 a2 st o w hs ah ab bh bb so hb tk fl rn sr lr nv mm H K f v wH hv (fun Y9 hI => ?_) v.toNat 1 (fun _ _ => false) (by omega) ⟨by omega, fun y => rfl⟩
  have hpt := ptO_p (a := v) (by omega)
  have hfin : Y9 0 (ptO v).toNat = hlS H v.toNat (2 * v.toNat - 2) := by rw [hI.2, show (v + 1 - 1).toNat = v.toNat by omega, show (ptO v).toNat = 2 * v.toNat - 2 by omega]
  refine vv_aload_n F zd_CR_leastValue_81 rfl 0 rfl ?_
  refine vv_get F zd_CR_leastValue_82 zf_CR 0 rfl rfl 5 (by decide) zw_204 rfl ?_
  refine vv_iconst F zd_CR_leastValue_85 ?_
  refine vv_iload_n F zd_CR_leastValue_86 rfl 1 rfl ?_
  refine vv_callSN (As := [.int (iI v)]) (rest := [.int (iI 0), .ref hs]) (wr := [ceO 1 cr [.ref a1, .ref a2, .ref st, .ref o, .ref w, .ref hs, .int (iI tk), .int (iI fl), .int (iI (bZ rn)), .int (iI sr), .int (iI lr), .int (iI nv), .int (iI mm)], ceO 4 o [.ref ah, .ref bh, .ref so], ceO 5 ah [.ref ab], ceJ G ab 480 (tw H), ceO 5 bh [.ref bb], ceJ G bb 480 (tw K), ceI G so 160 f, ceO 5 hs [.ref hb], ceJ G hb 3 (tw Y9)]) F (cn_CG_pointOf l G v ⟨by omega, by omega⟩) zm_CG_pointOf zw_391 zx_390 zd_CR_leastValue_87 ⟨by decide, by decide⟩ ⟨by decide, by decide⟩ [] [0, 1, 2, 3, 4, 5, 6, 7, 8] rfl rfl ⟨rfl, rfl, by decide⟩ rfl rfl (Nat.le_of_ble_eq_true rfl) (vv_then (ws' := [ceO 1 cr [.ref a1, .ref a2, .ref st, .ref o, .ref w, .ref hs, .int (iI tk), .int (iI fl), .int (iI (bZ rn)), .int (iI sr), .int (iI lr), .int (iI nv), .int (iI mm)], ceO 4 o [.ref ah, .ref bh, .ref so], ceO 5 ah [.ref ab], ceJ G ab 480 (tw H), ceO 5 bh [.ref bb], ceJ G bb 480 (tw K), ceI G so 160 f, ceO 5 hs [.ref hb], ceJ G hb 3 (tw Y9)]) (st' := [.int (iI (ptO v)), .int (iI 0), .ref hs]) [0, 1, 2, 3, 4, 5, 6, 7, 8] rfl rfl rfl ?_)
  refine vv_callV (q0 := 7) (As := [.int (iI 0), .int (iI (ptO v))]) (rest := []) (wr := [ceO 1 cr [.ref a1, .ref a2, .ref st, .ref o, .ref w, .ref hs, .int (iI tk), .int (iI fl), .int (iI (bZ rn)), .int (iI sr), .int (iI lr), .int (iI nv), .int (iI mm)], ceO 4 o [.ref ah, .ref bh, .ref so], ceO 5 ah [.ref ab], ceJ G ab 480 (tw H), ceO 5 bh [.ref bb], ceJ G bb 480 (tw K), ceI G so 160 f]) F (cn_TA_has l G hs hb 3 Y9 0 (ptO v) ⟨by omega, by omega⟩ ⟨by omega, by omega⟩ (by omega)) zm_TA_has ⟨zw_287, zw_288⟩ zw_701 zd_CR_leastValue_90 ⟨by decide, by decide⟩ ⟨by decide, by decide⟩ [7, 8] [0, 1, 2, 3, 4, 5, 6] rfl rfl ⟨rfl, rfl, by decide⟩ rfl rfl rfl rfl (Nat.le_of_ble_eq_true rfl) (vv_then (ws' := [ceO 1 cr [.ref a1, .ref a2, .ref st, .ref o, .ref w, .ref hs, .int (iI tk), .int (iI fl), .int (iI (bZ rn)), .int (iI sr), .int (iI lr), .int (iI nv), .int (iI mm)], ceO 4 o [.ref ah, .ref bh, .ref so], ceO 5 ah [.ref ab], ceJ G ab 480 (tw H), ceO 5 bh [.ref bb], ceJ G bb 480 (tw K), ceI G so 160 f, ceO 5 hs [.ref hb], ceJ G hb 3 (tw Y9)]) (st' := [.int (iI (bZ (Y9 0 (ptO v).toNat)))]) [0, 1, 2, 3, 4, 5, 6, 7, 8] rfl rfl rfl ?_)
  refine vv_if_eq (tgt := 100) F zd_CR_leastValue_93 rfl (bZ_rg _) (fun h1 => ?_) (fun h1 => ?_)
  · have h1 : (Y9 0 (ptO v).toNat) = false := (bZ_0 _).mp h1
    refine vv_iconst F zd_CR_leastValue_100 ?_
    exact vv_iret F zd_CR_leastValue_101 ⟨_, by rw [← hfin, h1]; rfl, rfl⟩
  · have h1 : (Y9 0 (ptO v).toNat) = true := by cases hb9 : (Y9 0 (ptO v).toNat) with | true => rfl | false => exact absurd ((bZ_0 _).mpr hb9) h1
    refine vv_iconst F zd_CR_leastValue_96 ?_
    refine vv_goto (tgt := 101) F zd_CR_leastValue_97 rfl ?_
    exact vv_iret F zd_CR_leastValue_101 ⟨_, by rw [← hfin, h1]; rfl, rfl⟩

theorem fst_rg (g : Nat → Bool) : ∀ n, -1 ≤ fstB g n ∧ fstB g n < n
  | 0 => by unfold fstB; omega
  | n + 1 => by
    have := fst_rg g n
    unfold fstB
    split
    · omega
    · split <;> omega

set_option maxHeartbeats 4000000 in
set_option maxRecDepth 100000 in
theorem lp_CR_cc {p : Program} {l : Launch} {e : Env} {s : State} {m : MethodId} {args : Array Value} {below : List Frame} {meth : Method} {c : Code} {A : Nat → Prop} {Q : State → Prop} {G : vv_G} (F : vv_F p s m args meth c zc_CR_countClasses "ClauseGraph$ClauseRow" "countClasses" (some .int) G A 4) (cr : Nat) (a1 : Nat) (a2 : Nat) (st : Nat) (o : Nat) (w : Nat) (hs : Nat) (ah : Nat) (ab : Nat) (bh : Nat) (bb : Nat) (so : Nat) (tk : Int) (fl : Int) (rn : Bool) (sr : Int) (lr : Int) (nv : Int) (mm : Int) (H : Nat → Nat → Bool) (K : Nat → Nat → Bool) (f : Nat → Int) (hnv : 0 ≤ nv ∧ nv ≤ 80)
    (k : ∀ (z : Int) (sf : Bool), (0 ≤ (2 * nv) ∧ z = (cN (freq H K) (2 * nv).toNat : Int) ∧ sf = decide (cN (fixd H) (2 * nv).toNat ≠ 0)) → vv_V p l e { frames := 4, cells := 0, slots := 0, locals := 89 } s m args below meth c G A 4 Q 61 [(0, .ref cr), (1, .int (iI z)), (2, .int (iI (bZ sf))), (3, .int (iI (2 * nv)))] [] [ceO 1 cr [.ref a1, .ref a2, .ref st, .ref o, .ref w, .ref hs, .int (iI tk), .int (iI fl), .int (iI (bZ rn)), .int (iI sr), .int (iI lr), .int (iI nv), .int (iI mm)], ceO 4 o [.ref ah, .ref bh, .ref so], ceO 5 ah [.ref ab], ceJ G ab 480 (tw H), ceO 5 bh [.ref bb], ceJ G bb 480 (tw K), ceI G so 160 f] 0 0)  :
    ∀ (d : Nat) (i : Int) (z : Int) (sf : Bool), i + (d : Int) = (2 * nv) → (0 ≤ i ∧ z = (cN (freq H K) i.toNat : Int) ∧ sf = decide (cN (fixd H) i.toNat ≠ 0)) → vv_V p l e { frames := 4, cells := 0, slots := 0, locals := 89 } s m args below meth c G A 4 Q 6 [(0, .ref cr), (1, .int (iI z)), (2, .int (iI (bZ sf))), (3, .int (iI i))] [] [ceO 1 cr [.ref a1, .ref a2, .ref st, .ref o, .ref w, .ref hs, .int (iI tk), .int (iI fl), .int (iI (bZ rn)), .int (iI sr), .int (iI lr), .int (iI nv), .int (iI mm)], ceO 4 o [.ref ah, .ref bh, .ref so], ceO 5 ah [.ref ab], ceJ G ab 480 (tw H), ceO 5 bh [.ref bb], ceJ G bb 480 (tw K), ceI G so 160 f] 0 0 := by
  intro d
  induction d with
  | zero =>
    intro i z sf hd hI
    have hz : i = (2 * nv) := by omega
    subst hz
    refine vv_iload_n F zd_CR_countClasses_6 rfl 3 rfl ?_
    refine vv_iconst F zd_CR_countClasses_7 ?_
    refine vv_aload_n F zd_CR_countClasses_8 rfl 0 rfl ?_
    refine vv_get F zd_CR_countClasses_9 zf_CR 0 rfl rfl 11 (by decide) zw_212 rfl ?_
    refine vv_imul F zd_CR_countClasses_12 ?_
    refine vv_icmp_ge (tgt := 61) F zd_CR_countClasses_13 rfl (by first | exact ⟨by omega, by omega⟩) (by first | exact ⟨by omega, by omega⟩) (fun _ => ?_) (fun h9 => absurd h9 (by omega))
    exact k z sf hI
  | succ d ih =>
    intro i z sf hd hI
    have j1 : opp i.toNat < 160 := by have := opp_lt (p := i.toNat) (n := 80) (by omega); omega
    have e1 := cN_s (freq H K) i.toNat
    have e2 := cN_s (fixd H) i.toNat
    rw [← show (i + 1).toNat = i.toNat + 1 by omega] at e1 e2
    have b9 : -1 ≤ fstB (fun p => H i.toNat p && K i.toNat p) 192 ∧ fstB (fun p => H i.toNat p && K i.toNat p) 192 < 192 := fst_rg _ _
    refine vv_iload_n F zd_CR_countClasses_6 rfl 3 rfl ?_
    refine vv_iconst F zd_CR_countClasses_7 ?_
    refine vv_aload_n F zd_CR_countClasses_8 rfl 0 rfl ?_
    refine vv_get F zd_CR_countClasses_9 zf_CR 0 rfl rfl 11 (by decide) zw_212 rfl ?_
    refine vv_imul F zd_CR_countClasses_12 ?_
    refine vv_icmp_ge (tgt := 61) F zd_CR_countClasses_13 rfl (by first | exact ⟨by omega, by omega⟩) (by first | exact ⟨by omega, by omega⟩) (fun h9 => absurd h9 (by omega)) (fun _ => ?_)
    refine vv_aload_n F zd_CR_countClasses_16 rfl 0 rfl ?_
    refine vv_iload_n F zd_CR_countClasses_17 rfl 3 rfl ?_
    refine vv_callV (q0 := 0) (As := [.int (iI i)]) (rest := []) (wr := []) F (cn_CR_isTrueAlways l G cr a1 a2 st o w hs ah ab bh bb so tk fl rn sr lr nv mm H K f i ⟨by omega, by omega⟩) zm_CR_isTrueAlways ⟨zw_703, zw_704⟩ zw_702 zd_CR_countClasses_18 ⟨by decide, by decide⟩ ⟨by decide, by decide⟩ [0, 1, 2, 3, 4, 5, 6] [] rfl rfl ⟨rfl, rfl, by decide⟩ rfl rfl rfl rfl (Nat.le_of_ble_eq_true rfl) (vv_then (ws' := [ceO 1 cr [.ref a1, .ref a2, .ref st, .ref o, .ref w, .ref hs, .int (iI tk), .int (iI fl), .int (iI (bZ rn)), .int (iI sr), .int (iI lr), .int (iI nv), .int (iI mm)], ceO 4 o [.ref ah, .ref bh, .ref so], ceO 5 ah [.ref ab], ceJ G ab 480 (tw H), ceO 5 bh [.ref bb], ceJ G bb 480 (tw K), ceI G so 160 f]) (st' := [.int (iI (bZ (H (opp i.toNat) i.toNat)))]) [0, 1, 2, 3, 4, 5, 6] rfl rfl rfl ?_)
    refine vv_if_ne (tgt := 35) F zd_CR_countClasses_21 rfl (bZ_rg _) (fun h1 => ?_) (fun h1 => ?_)
    · have h1 : (H (opp i.toNat) i.toNat) = true := by cases hb9 : (H (opp i.toNat) i.toNat) with | true => rfl | false => exact absurd ((bZ_0 _).mpr hb9) h1
      refine vv_iconst F zd_CR_countClasses_35 ?_
      refine vv_istore_n (lv' := [(0, .ref cr), (1, .int (iI z)), (2, .int (iI 1)), (3, .int (iI i))]) F zd_CR_countClasses_36 rfl (by decide) [1, 2, 0, 3] rfl ?_
      refine vv_goto (tgt := 55) F zd_CR_countClasses_37 rfl ?_
      refine vv_iinc (j := 3) (lv' := [(0, .ref cr), (1, .int (iI z)), (2, .int (iI 1)), (3, .int (iI (i + 1)))]) F zd_CR_countClasses_55 rfl (by decide) [1, 2, 3, 0] rfl ?_
      refine vv_goto (tgt := 6) F zd_CR_countClasses_58 rfl ?_
      exact ih (i + 1) z true (by omega) (⟨by omega, by
      have hfx : fixd H i.toNat = true := by unfold fixd; rw [h1]; rfl
      have hfq : freq H K i.toNat = false := by unfold freq; rw [hfx]; rfl
      rw [hfq] at e1
      simp only [Bool.false_eq_true, if_false, Nat.add_zero] at e1
      omega, by
      have hfx : fixd H i.toNat = true := by unfold fixd; rw [h1]; rfl
      rw [hfx] at e2
      simp only [if_true, Nat.add_zero] at e2
      exact (decide_eq_true (by omega)).symm⟩)
    · have h1 : (H (opp i.toNat) i.toNat) = false := (bZ_0 _).mp h1
      refine vv_aload_n F zd_CR_countClasses_24 rfl 0 rfl ?_
      refine vv_iload_n F zd_CR_countClasses_25 rfl 3 rfl ?_
      refine vv_callSN (As := [.int (iI i)]) (rest := [.ref cr]) (wr := [ceO 1 cr [.ref a1, .ref a2, .ref st, .ref o, .ref w, .ref hs, .int (iI tk), .int (iI fl), .int (iI (bZ rn)), .int (iI sr), .int (iI lr), .int (iI nv), .int (iI mm)], ceO 4 o [.ref ah, .ref bh, .ref so], ceO 5 ah [.ref ab], ceJ G ab 480 (tw H), ceO 5 bh [.ref bb], ceJ G bb 480 (tw K), ceI G so 160 f]) F (cn_CG_opposite l G i ⟨by omega, by omega⟩) zm_CG_opposite zw_368 zx_367 zd_CR_countClasses_26 ⟨by decide, by decide⟩ ⟨by decide, by decide⟩ [] [0, 1, 2, 3, 4, 5, 6] rfl rfl ⟨rfl, rfl, by decide⟩ rfl rfl (Nat.le_of_ble_eq_true rfl) (vv_then (ws' := [ceO 1 cr [.ref a1, .ref a2, .ref st, .ref o, .ref w, .ref hs, .int (iI tk), .int (iI fl), .int (iI (bZ rn)), .int (iI sr), .int (iI lr), .int (iI nv), .int (iI mm)], ceO 4 o [.ref ah, .ref bh, .ref so], ceO 5 ah [.ref ab], ceJ G ab 480 (tw H), ceO 5 bh [.ref bb], ceJ G bb 480 (tw K), ceI G so 160 f]) (st' := [.int (iI (opp i.toNat : Int)), .ref cr]) [0, 1, 2, 3, 4, 5, 6] rfl rfl rfl ?_)
      refine vv_callV (q0 := 0) (As := [.int (iI (opp i.toNat : Int))]) (rest := []) (wr := []) F (cn_CR_isTrueAlways l G cr a1 a2 st o w hs ah ab bh bb so tk fl rn sr lr nv mm H K f (opp i.toNat : Int) ⟨by omega, by omega⟩) zm_CR_isTrueAlways ⟨zw_703, zw_704⟩ zw_702 zd_CR_countClasses_29 ⟨by decide, by decide⟩ ⟨by decide, by decide⟩ [0, 1, 2, 3, 4, 5, 6] [] rfl rfl ⟨rfl, rfl, by decide⟩ rfl rfl rfl rfl (Nat.le_of_ble_eq_true rfl) (vv_then (ws' := [ceO 1 cr [.ref a1, .ref a2, .ref st, .ref o, .ref w, .ref hs, .int (iI tk), .int (iI fl), .int (iI (bZ rn)), .int (iI sr), .int (iI lr), .int (iI nv), .int (iI mm)], ceO 4 o [.ref ah, .ref bh, .ref so], ceO 5 ah [.ref ab], ceJ G ab 480 (tw H), ceO 5 bh [.ref bb], ceJ G bb 480 (tw K), ceI G so 160 f]) (st' := [.int (iI (bZ (H (opp (opp i.toNat : Int).toNat) (opp i.toNat : Int).toNat)))]) [0, 1, 2, 3, 4, 5, 6] rfl rfl rfl ?_)
      refine vv_if_eq (tgt := 40) F zd_CR_countClasses_32 rfl (bZ_rg _) (fun h2 => ?_) (fun h2 => ?_)
      · have h2 : (H (opp (opp i.toNat : Int).toNat) (opp i.toNat : Int).toNat) = false := (bZ_0 _).mp h2
        refine vv_aload_n F zd_CR_countClasses_40 rfl 0 rfl ?_
        refine vv_get F zd_CR_countClasses_41 zf_CR 0 rfl rfl 3 (by decide) zw_202 rfl ?_
        refine vv_iload_n F zd_CR_countClasses_44 rfl 3 rfl ?_
        refine vv_callV (q0 := 1) (As := [.int (iI i)]) (rest := []) (wr := [ceO 1 cr [.ref a1, .ref a2, .ref st, .ref o, .ref w, .ref hs, .int (iI tk), .int (iI fl), .int (iI (bZ rn)), .int (iI sr), .int (iI lr), .int (iI nv), .int (iI mm)]]) F (cn_RE_leastOfKnot l G o ah ab bh bb so H K f i ⟨by omega, by omega⟩) zm_RE_leastOfKnot ⟨zw_743, zw_744⟩ zw_742 zd_CR_countClasses_45 ⟨by decide, by decide⟩ ⟨by decide, by decide⟩ [1, 2, 3, 4, 5, 6] [0] rfl rfl ⟨rfl, rfl, by decide⟩ rfl rfl rfl rfl (Nat.le_of_ble_eq_true rfl) (vv_then (ws' := [ceO 1 cr [.ref a1, .ref a2, .ref st, .ref o, .ref w, .ref hs, .int (iI tk), .int (iI fl), .int (iI (bZ rn)), .int (iI sr), .int (iI lr), .int (iI nv), .int (iI mm)], ceO 4 o [.ref ah, .ref bh, .ref so], ceO 5 ah [.ref ab], ceJ G ab 480 (tw H), ceO 5 bh [.ref bb], ceJ G bb 480 (tw K), ceI G so 160 f]) (st' := [.int (iI (fstB (fun p => H i.toNat p && K i.toNat p) 192))]) [0, 1, 2, 3, 4, 5, 6] rfl rfl rfl ?_)
        refine vv_iload_n F zd_CR_countClasses_48 rfl 3 rfl ?_
        refine vv_icmp_ne (tgt := 55) F zd_CR_countClasses_49 rfl (by first | exact ⟨by omega, by omega⟩) (by first | exact ⟨by omega, by omega⟩) (fun h3 => ?_) (fun h3 => ?_)
        · refine vv_iinc (j := 3) (lv' := [(0, .ref cr), (1, .int (iI z)), (2, .int (iI (bZ sf))), (3, .int (iI (i + 1)))]) F zd_CR_countClasses_55 rfl (by decide) [1, 2, 3, 0] rfl ?_
          refine vv_goto (tgt := 6) F zd_CR_countClasses_58 rfl ?_
          exact ih (i + 1) z sf (by omega) (⟨by omega, by
      have hfx : fixd H i.toNat = false := by unfold fixd; simp only [Int.toNat_natCast, opp_opp] at h2; rw [h1, h2]; rfl
      have hfq : freq H K i.toNat = false := by unfold freq; rw [hfx]; rw [decide_eq_false (by omega)]; rfl
      rw [hfq] at e1
      simp only [Bool.false_eq_true, if_false, Nat.add_zero] at e1
      omega, by
      have hfx : fixd H i.toNat = false := by unfold fixd; simp only [Int.toNat_natCast, opp_opp] at h2; rw [h1, h2]; rfl
      rw [hfx] at e2
      simp only [Bool.false_eq_true, if_false, Nat.add_zero] at e2
      rw [hI.2.2, e2]⟩)
        · refine vv_iinc (j := 1) (lv' := [(0, .ref cr), (1, .int (iI (z + 1))), (2, .int (iI (bZ sf))), (3, .int (iI i))]) F zd_CR_countClasses_52 rfl (by decide) [1, 0, 2, 3] rfl ?_
          refine vv_iinc (j := 3) (lv' := [(0, .ref cr), (1, .int (iI (z + 1))), (2, .int (iI (bZ sf))), (3, .int (iI (i + 1)))]) F zd_CR_countClasses_55 rfl (by decide) [1, 2, 3, 0] rfl ?_
          refine vv_goto (tgt := 6) F zd_CR_countClasses_58 rfl ?_
          exact ih (i + 1) (z + 1) sf (by omega) (⟨by omega, by
      have hfx : fixd H i.toNat = false := by unfold fixd; simp only [Int.toNat_natCast, opp_opp] at h2; rw [h1, h2]; rfl
      have hfq : freq H K i.toNat = true := by unfold freq; rw [hfx]; rw [decide_eq_true (by omega)]; rfl
      rw [hfq] at e1
      simp only [if_true, Nat.add_zero] at e1
      omega, by
      have hfx : fixd H i.toNat = false := by unfold fixd; simp only [Int.toNat_natCast, opp_opp] at h2; rw [h1, h2]; rfl
      rw [hfx] at e2
      simp only [Bool.false_eq_true, if_false, Nat.add_zero] at e2
      rw [hI.2.2, e2]⟩)
      · have h2 : (H (opp (opp i.toNat : Int).toNat) (opp i.toNat : Int).toNat) = true := by cases hb9 : (H (opp (opp i.toNat : Int).toNat) (opp i.toNat : Int).toNat) with | true => rfl | false => exact absurd ((bZ_0 _).mpr hb9) h2
        refine vv_iconst F zd_CR_countClasses_35 ?_
        refine vv_istore_n (lv' := [(0, .ref cr), (1, .int (iI z)), (2, .int (iI 1)), (3, .int (iI i))]) F zd_CR_countClasses_36 rfl (by decide) [1, 2, 0, 3] rfl ?_
        refine vv_goto (tgt := 55) F zd_CR_countClasses_37 rfl ?_
        refine vv_iinc (j := 3) (lv' := [(0, .ref cr), (1, .int (iI z)), (2, .int (iI 1)), (3, .int (iI (i + 1)))]) F zd_CR_countClasses_55 rfl (by decide) [1, 2, 3, 0] rfl ?_
        refine vv_goto (tgt := 6) F zd_CR_countClasses_58 rfl ?_
        exact ih (i + 1) z true (by omega) (⟨by omega, by
      have hfx : fixd H i.toNat = true := by unfold fixd; simp only [Int.toNat_natCast, opp_opp] at h2; rw [h2]; simp
      have hfq : freq H K i.toNat = false := by unfold freq; rw [hfx]; rfl
      rw [hfq] at e1
      simp only [Bool.false_eq_true, if_false, Nat.add_zero] at e1
      omega, by
      have hfx : fixd H i.toNat = true := by unfold fixd; simp only [Int.toNat_natCast, opp_opp] at h2; rw [h2]; simp
      rw [hfx] at e2
      simp only [if_true, Nat.add_zero] at e2
      exact (decide_eq_true (by omega)).symm⟩)

set_option maxHeartbeats 4000000 in
set_option maxRecDepth 100000 in
theorem cn_CR_countClasses (l : Launch) (G : vv_G) (cr : Nat) (a1 : Nat) (a2 : Nat) (st : Nat) (o : Nat) (w : Nat) (hs : Nat) (ah : Nat) (ab : Nat) (bh : Nat) (bb : Nat) (so : Nat) (tk : Int) (fl : Int) (rn : Bool) (sr : Int) (lr : Int) (nv : Int) (mm : Int) (H : Nat → Nat → Bool) (K : Nat → Nat → Bool) (f : Nat → Int) (hnv : 0 ≤ nv ∧ nv ≤ 80) :
    vv_D l zy_CR_countClasses zc_CR_countClasses 4 (some .int) { frames := 4, cells := 0, slots := 0, locals := 89 } G [.ref cr] [ceO 1 cr [.ref a1, .ref a2, .ref st, .ref o, .ref w, .ref hs, .int (iI tk), .int (iI fl), .int (iI (bZ rn)), .int (iI sr), .int (iI lr), .int (iI nv), .int (iI mm)], ceO 4 o [.ref ah, .ref bh, .ref so], ceO 5 ah [.ref ab], ceJ G ab 480 (tw H), ceO 5 bh [.ref bb], ceJ G bb 480 (tw K), ceI G so 160 f] (some (.int (iI (aCls H K (2 * nv).toNat : Int)))) [ceO 1 cr [.ref a1, .ref a2, .ref st, .ref o, .ref w, .ref hs, .int (iI tk), .int (iI fl), .int (iI (bZ rn)), .int (iI sr), .int (iI lr), .int (iI nv), .int (iI mm)], ceO 4 o [.ref ah, .ref bh, .ref so], ceO 5 ah [.ref ab], ceJ G ab 480 (tw H), ceO 5 bh [.ref bb], ceJ G bb 480 (tw K), ceI G so 160 f] := by
  refine vv_met (by decide +kernel) (Nat.le_of_ble_eq_true rfl) rfl ?_
  intro p e s m args below meth c A F
  refine vv_iconst F zd_CR_countClasses_0 ?_
  refine vv_istore_n (lv' := [(0, .ref cr), (1, .int (iI 0))]) F zd_CR_countClasses_1 rfl (by decide) [1, 0] rfl ?_
  refine vv_iconst F zd_CR_countClasses_2 ?_
  refine vv_istore_n (lv' := [(0, .ref cr), (1, .int (iI 0)), (2, .int (iI 0))]) F zd_CR_countClasses_3 rfl (by decide) [1, 2, 0] rfl ?_
  refine vv_iconst F zd_CR_countClasses_4 ?_
  refine vv_istore_n (lv' := [(0, .ref cr), (1, .int (iI 0)), (2, .int (iI 0)), (3, .int (iI 0))]) F zd_CR_countClasses_5 rfl (by decide) [1, 2, 3, 0] rfl ?_
  refine lp_CR_cc F cr a1 a2 st o w hs ah ab bh bb so tk fl rn sr lr nv mm H K f hnv (fun z sf hI => ?_) (2 * nv).toNat 0 0 false (by omega) ⟨by omega, rfl, rfl⟩
  refine vv_iload_n F zd_CR_countClasses_61 rfl 2 rfl ?_
  refine vv_if_eq (tgt := 71) F zd_CR_countClasses_62 rfl (bZ_rg _) (fun h1 => ?_) (fun h1 => ?_)
  · have h1 : sf = false := (bZ_0 _).mp h1
    refine vv_iload_n F zd_CR_countClasses_71 rfl 1 rfl ?_
    exact vv_iret F zd_CR_countClasses_72 ⟨by have h9 := hI.2.2; rw [h1] at h9; have h8 := of_decide_eq_false h9.symm; unfold aCls; rw [if_neg h8, hI.2.1]; rfl, rfl⟩
  · have h1 : sf = true := by cases hb9 : sf with | true => rfl | false => exact absurd ((bZ_0 _).mpr hb9) h1
    refine vv_iload_n F zd_CR_countClasses_65 rfl 1 rfl ?_
    refine vv_iconst F zd_CR_countClasses_66 ?_
    refine vv_iadd F zd_CR_countClasses_67 ?_
    refine vv_goto (tgt := 72) F zd_CR_countClasses_68 rfl ?_
    exact vv_iret F zd_CR_countClasses_72 ⟨by have h9 := hI.2.2; rw [h1] at h9; have h8 := of_decide_eq_true h9.symm; unfold aCls; rw [if_pos h8, hI.2.1]; rfl, rfl⟩

theorem sh_pos {B : Nat → Nat → Bool} {u v : Nat} {z : Int} (h : shB B u v z) (hne : z ≠ -1) : 1 ≤ z ∧ z ≤ 160 := by
  rcases h with ⟨h, -⟩ | ⟨k, h1, h2, h3, -⟩ <;> omega

set_option maxHeartbeats 4000000 in
set_option maxRecDepth 100000 in
theorem cn_CR_roundOf (l : Launch) (G : vv_G) (cr : Nat) (a1 : Nat) (a2 : Nat) (st : Nat) (o : Nat) (w : Nat) (hs : Nat) (sb : Nat) (T : Nat → Nat → Bool) (qa : Nat) (ra : Nat) (sa : Nat) (sc : Nat) (fa : Nat) (fb : Nat) (tk : Int) (fl : Int) (rn : Bool) (sr : Int) (lr : Int) (nv : Int) (mm : Int) (q : Nat → Int) (r : Nat → Int) (S : Nat → Nat → Bool) (Fr : Nat → Nat → Bool) (v : Int) (wT : wfB T) (hv : 1 ≤ v ∧ v ≤ 80) :
    vv_C l zy_CR_roundOf zc_CR_roundOf 5 (some .int) { frames := 4, cells := 0, slots := 0, locals := 97 } G [.ref cr, .int (iI v)] [ceO 1 cr [.ref a1, .ref a2, .ref st, .ref o, .ref w, .ref hs, .int (iI tk), .int (iI fl), .int (iI (bZ rn)), .int (iI sr), .int (iI lr), .int (iI nv), .int (iI mm)], ceO 5 st [.ref sb], ceJ G sb 480 (tw T), ceO 6 w [.ref qa, .ref ra, .ref sa, .ref fa], ceI G qa 160 q, ceI G ra 160 r, ceO 5 sa [.ref sc], ceJ G sc 3 (tw S), ceO 5 fa [.ref fb], ceJ G fb 3 (tw Fr)] (fun v7 w7 => ∃ (q2 : Nat → Int) (r2 : Nat → Int) (S2 : Nat → Nat → Bool) (F2 : Nat → Nat → Bool) (z : Int), (rndR T v.toNat z) ∧ v7 = some (.int (iI z)) ∧ w7 = [ceO 1 cr [.ref a1, .ref a2, .ref st, .ref o, .ref w, .ref hs, .int (iI tk), .int (iI fl), .int (iI (bZ rn)), .int (iI sr), .int (iI lr), .int (iI nv), .int (iI mm)], ceO 5 st [.ref sb], ceJ G sb 480 (tw T), ceO 6 w [.ref qa, .ref ra, .ref sa, .ref fa], ceI G qa 160 q2, ceI G ra 160 r2, ceO 5 sa [.ref sc], ceJ G sc 3 (tw S2), ceO 5 fa [.ref fb], ceJ G fb 3 (tw F2)]) := by
  refine vv_met (by decide +kernel) (Nat.le_of_ble_eq_true rfl) rfl ?_
  intro p e s m args below meth c A F
  have hpt := ptO_p (a := v) (by omega)
  have ht : (ptO v).toNat = 2 * v.toNat - 2 := by omega
  have ho : opp (ptO v).toNat = 2 * v.toNat - 1 := by rw [ht, show 2 * v.toNat - 2 = 2 * (v.toNat - 1) by omega, opp_even]; omega
  refine vv_iload_n F zd_CR_roundOf_0 rfl 1 rfl ?_
  refine vv_callSN (As := [.int (iI v)]) (rest := []) (wr := [ceO 1 cr [.ref a1, .ref a2, .ref st, .ref o, .ref w, .ref hs, .int (iI tk), .int (iI fl), .int (iI (bZ rn)), .int (iI sr), .int (iI lr), .int (iI nv), .int (iI mm)], ceO 5 st [.ref sb], ceJ G sb 480 (tw T), ceO 6 w [.ref qa, .ref ra, .ref sa, .ref fa], ceI G qa 160 q, ceI G ra 160 r, ceO 5 sa [.ref sc], ceJ G sc 3 (tw S), ceO 5 fa [.ref fb], ceJ G fb 3 (tw Fr)]) F (cn_CG_pointOf l G v ⟨by omega, by omega⟩) zm_CG_pointOf zw_391 zx_390 zd_CR_roundOf_1 ⟨by decide, by decide⟩ ⟨by decide, by decide⟩ [] [0, 1, 2, 3, 4, 5, 6, 7, 8, 9] rfl rfl ⟨rfl, rfl, by decide⟩ rfl rfl (Nat.le_of_ble_eq_true rfl) (vv_then (ws' := [ceO 1 cr [.ref a1, .ref a2, .ref st, .ref o, .ref w, .ref hs, .int (iI tk), .int (iI fl), .int (iI (bZ rn)), .int (iI sr), .int (iI lr), .int (iI nv), .int (iI mm)], ceO 5 st [.ref sb], ceJ G sb 480 (tw T), ceO 6 w [.ref qa, .ref ra, .ref sa, .ref fa], ceI G qa 160 q, ceI G ra 160 r, ceO 5 sa [.ref sc], ceJ G sc 3 (tw S), ceO 5 fa [.ref fb], ceJ G fb 3 (tw Fr)]) (st' := [.int (iI (ptO v))]) [0, 1, 2, 3, 4, 5, 6, 7, 8, 9] rfl rfl rfl ?_)
  refine vv_istore_n (lv' := [(0, .ref cr), (1, .int (iI v)), (2, .int (iI (ptO v)))]) F zd_CR_roundOf_4 rfl (by decide) [1, 2, 0] rfl ?_
  refine vv_aload_n F zd_CR_roundOf_5 rfl 0 rfl ?_
  refine vv_get F zd_CR_roundOf_6 zf_CR 0 rfl rfl 4 (by decide) zw_203 rfl ?_
  refine vv_aload_n F zd_CR_roundOf_9 rfl 0 rfl ?_
  refine vv_get F zd_CR_roundOf_10 zf_CR 0 rfl rfl 2 (by decide) zw_201 rfl ?_
  refine vv_iload_n F zd_CR_roundOf_13 rfl 2 rfl ?_
  refine vv_iload_n F zd_CR_roundOf_14 rfl 2 rfl ?_
  refine vv_callSN (As := [.int (iI (ptO v))]) (rest := [.int (iI (ptO v)), .ref st, .ref w]) (wr := [ceO 1 cr [.ref a1, .ref a2, .ref st, .ref o, .ref w, .ref hs, .int (iI tk), .int (iI fl), .int (iI (bZ rn)), .int (iI sr), .int (iI lr), .int (iI nv), .int (iI mm)], ceO 5 st [.ref sb], ceJ G sb 480 (tw T), ceO 6 w [.ref qa, .ref ra, .ref sa, .ref fa], ceI G qa 160 q, ceI G ra 160 r, ceO 5 sa [.ref sc], ceJ G sc 3 (tw S), ceO 5 fa [.ref fb], ceJ G fb 3 (tw Fr)]) F (cn_CG_opposite l G (ptO v) ⟨by omega, by omega⟩) zm_CG_opposite zw_368 zx_367 zd_CR_roundOf_15 ⟨by decide, by decide⟩ ⟨by decide, by decide⟩ [] [0, 1, 2, 3, 4, 5, 6, 7, 8, 9] rfl rfl ⟨rfl, rfl, by decide⟩ rfl rfl (Nat.le_of_ble_eq_true rfl) (vv_then (ws' := [ceO 1 cr [.ref a1, .ref a2, .ref st, .ref o, .ref w, .ref hs, .int (iI tk), .int (iI fl), .int (iI (bZ rn)), .int (iI sr), .int (iI lr), .int (iI nv), .int (iI mm)], ceO 5 st [.ref sb], ceJ G sb 480 (tw T), ceO 6 w [.ref qa, .ref ra, .ref sa, .ref fa], ceI G qa 160 q, ceI G ra 160 r, ceO 5 sa [.ref sc], ceJ G sc 3 (tw S), ceO 5 fa [.ref fb], ceJ G fb 3 (tw Fr)]) (st' := [.int (iI (opp (ptO v).toNat : Int)), .int (iI (ptO v)), .ref st, .ref w]) [0, 1, 2, 3, 4, 5, 6, 7, 8, 9] rfl rfl rfl ?_)
  refine vv_callV (q0 := 3) (As := [.ref st, .int (iI (ptO v)), .int (iI (opp (ptO v).toNat : Int))]) (rest := []) (wr := [ceO 1 cr [.ref a1, .ref a2, .ref st, .ref o, .ref w, .ref hs, .int (iI tk), .int (iI fl), .int (iI (bZ rn)), .int (iI sr), .int (iI lr), .int (iI nv), .int (iI mm)]]) F (cn_WA_shortest l G w qa ra sa sc fa fb q r S Fr st sb T (ptO v) (opp (ptO v).toNat : Int) wT ⟨by omega, by omega⟩ ⟨by omega, by omega⟩) zm_WA_shortest ⟨zw_394, zw_395⟩ zw_393 zd_CR_roundOf_18 ⟨by decide, by decide⟩ ⟨by decide, by decide⟩ [3, 4, 5, 6, 7, 8, 9, 1, 2] [0] rfl rfl ⟨rfl, rfl, by decide⟩ rfl rfl rfl rfl (Nat.le_of_ble_eq_true rfl) (fun v9 w9 hp9 => ?_)
  obtain ⟨q2_1, r2_2, S2_3, F2_4, z_5, hf1_0, rfl, rfl⟩ := hp9
  refine vv_thenE (ws' := [ceO 1 cr [.ref a1, .ref a2, .ref st, .ref o, .ref w, .ref hs, .int (iI tk), .int (iI fl), .int (iI (bZ rn)), .int (iI sr), .int (iI lr), .int (iI nv), .int (iI mm)], ceO 5 st [.ref sb], ceJ G sb 480 (tw T), ceO 6 w [.ref qa, .ref ra, .ref sa, .ref fa], ceI G qa 160 q2_1, ceI G ra 160 r2_2, ceO 5 sa [.ref sc], ceJ G sc 3 (tw S2_3), ceO 5 fa [.ref fb], ceJ G fb 3 (tw F2_4)]) (st' := [.int (iI z_5)]) (kc' := 0) (ks' := 0) [0, 8, 9, 1, 2, 3, 4, 5, 6, 7] rfl rfl rfl ?_
  have r1 := shB_rg hf1_0
  refine vv_istore_n (lv' := [(0, .ref cr), (1, .int (iI v)), (2, .int (iI (ptO v))), (3, .int (iI z_5))]) F zd_CR_roundOf_21 rfl (by decide) [1, 2, 3, 0] rfl ?_
  refine vv_iload_n F zd_CR_roundOf_22 rfl 3 rfl ?_
  refine vv_iconst F zd_CR_roundOf_23 ?_
  refine vv_icmp_ne (tgt := 29) F zd_CR_roundOf_24 rfl (by first | exact ⟨by omega, by omega⟩) (by decide) (fun h1 => ?_) (fun h1 => ?_)
  · refine vv_aload_n F zd_CR_roundOf_29 rfl 0 rfl ?_
    refine vv_get F zd_CR_roundOf_30 zf_CR 0 rfl rfl 4 (by decide) zw_203 rfl ?_
    refine vv_aload_n F zd_CR_roundOf_33 rfl 0 rfl ?_
    refine vv_get F zd_CR_roundOf_34 zf_CR 0 rfl rfl 2 (by decide) zw_201 rfl ?_
    refine vv_iload_n F zd_CR_roundOf_37 rfl 2 rfl ?_
    refine vv_callSN (As := [.int (iI (ptO v))]) (rest := [.ref st, .ref w]) (wr := [ceO 1 cr [.ref a1, .ref a2, .ref st, .ref o, .ref w, .ref hs, .int (iI tk), .int (iI fl), .int (iI (bZ rn)), .int (iI sr), .int (iI lr), .int (iI nv), .int (iI mm)], ceO 5 st [.ref sb], ceJ G sb 480 (tw T), ceO 6 w [.ref qa, .ref ra, .ref sa, .ref fa], ceI G qa 160 q2_1, ceI G ra 160 r2_2, ceO 5 sa [.ref sc], ceJ G sc 3 (tw S2_3), ceO 5 fa [.ref fb], ceJ G fb 3 (tw F2_4)]) F (cn_CG_opposite l G (ptO v) ⟨by omega, by omega⟩) zm_CG_opposite zw_368 zx_367 zd_CR_roundOf_38 ⟨by decide, by decide⟩ ⟨by decide, by decide⟩ [] [0, 1, 2, 3, 4, 5, 6, 7, 8, 9] rfl rfl ⟨rfl, rfl, by decide⟩ rfl rfl (Nat.le_of_ble_eq_true rfl) (vv_then (ws' := [ceO 1 cr [.ref a1, .ref a2, .ref st, .ref o, .ref w, .ref hs, .int (iI tk), .int (iI fl), .int (iI (bZ rn)), .int (iI sr), .int (iI lr), .int (iI nv), .int (iI mm)], ceO 5 st [.ref sb], ceJ G sb 480 (tw T), ceO 6 w [.ref qa, .ref ra, .ref sa, .ref fa], ceI G qa 160 q2_1, ceI G ra 160 r2_2, ceO 5 sa [.ref sc], ceJ G sc 3 (tw S2_3), ceO 5 fa [.ref fb], ceJ G fb 3 (tw F2_4)]) (st' := [.int (iI (opp (ptO v).toNat : Int)), .ref st, .ref w]) [0, 1, 2, 3, 4, 5, 6, 7, 8, 9] rfl rfl rfl ?_)
    refine vv_iload_n F zd_CR_roundOf_41 rfl 2 rfl ?_
    refine vv_callV (q0 := 3) (As := [.ref st, .int (iI (opp (ptO v).toNat : Int)), .int (iI (ptO v))]) (rest := []) (wr := [ceO 1 cr [.ref a1, .ref a2, .ref st, .ref o, .ref w, .ref hs, .int (iI tk), .int (iI fl), .int (iI (bZ rn)), .int (iI sr), .int (iI lr), .int (iI nv), .int (iI mm)]]) F (cn_WA_shortest l G w qa ra sa sc fa fb q2_1 r2_2 S2_3 F2_4 st sb T (opp (ptO v).toNat : Int) (ptO v) wT ⟨by omega, by omega⟩ ⟨by omega, by omega⟩) zm_WA_shortest ⟨zw_394, zw_395⟩ zw_393 zd_CR_roundOf_42 ⟨by decide, by decide⟩ ⟨by decide, by decide⟩ [3, 4, 5, 6, 7, 8, 9, 1, 2] [0] rfl rfl ⟨rfl, rfl, by decide⟩ rfl rfl rfl rfl (Nat.le_of_ble_eq_true rfl) (fun v9 w9 hp9 => ?_)
    obtain ⟨q2_6, r2_7, S2_8, F2_9, z_10, hf2_0, rfl, rfl⟩ := hp9
    refine vv_thenE (ws' := [ceO 1 cr [.ref a1, .ref a2, .ref st, .ref o, .ref w, .ref hs, .int (iI tk), .int (iI fl), .int (iI (bZ rn)), .int (iI sr), .int (iI lr), .int (iI nv), .int (iI mm)], ceO 5 st [.ref sb], ceJ G sb 480 (tw T), ceO 6 w [.ref qa, .ref ra, .ref sa, .ref fa], ceI G qa 160 q2_6, ceI G ra 160 r2_7, ceO 5 sa [.ref sc], ceJ G sc 3 (tw S2_8), ceO 5 fa [.ref fb], ceJ G fb 3 (tw F2_9)]) (st' := [.int (iI z_10)]) (kc' := 0) (ks' := 0) [0, 8, 9, 1, 2, 3, 4, 5, 6, 7] rfl rfl rfl ?_
    have r2 := shB_rg hf2_0
    refine vv_istore (lv' := [(0, .ref cr), (1, .int (iI v)), (2, .int (iI (ptO v))), (3, .int (iI z_5)), (4, .int (iI z_10))]) F zd_CR_roundOf_45 (by decide) [1, 2, 3, 4, 0] rfl ?_
    refine vv_iload F zd_CR_roundOf_47 4 rfl ?_
    refine vv_iconst F zd_CR_roundOf_49 ?_
    refine vv_icmp_ne (tgt := 57) F zd_CR_roundOf_50 rfl (by first | exact ⟨by omega, by omega⟩) (by decide) (fun h2 => ?_) (fun h2 => ?_)
    · refine vv_iload_n F zd_CR_roundOf_57 rfl 3 rfl ?_
      refine vv_iload F zd_CR_roundOf_58 4 rfl ?_
      refine vv_iadd F zd_CR_roundOf_60 ?_
      exact vv_iret F zd_CR_roundOf_61 ⟨_, _, _, _, _, Or.inr ⟨_, _, (sh_pos hf1_0 h1).1, (sh_pos hf1_0 h1).2, (sh_pos hf2_0 h2).1, (sh_pos hf2_0 h2).2, rfl, (by have h9 := hf1_0; rw [show (((opp (ptO v).toNat : Nat) : Int)).toNat = opp (ptO v).toNat from rfl, ho, ht] at h9; exact h9), (by have h9 := hf2_0; rw [show (((opp (ptO v).toNat : Nat) : Int)).toNat = opp (ptO v).toNat from rfl, ho, ht] at h9; exact h9)⟩, rfl, rfl⟩
    · refine vv_iconst F zd_CR_roundOf_53 ?_
      refine vv_goto (tgt := 61) F zd_CR_roundOf_54 rfl ?_
      exact vv_iret F zd_CR_roundOf_61 ⟨_, _, _, _, _, Or.inl ⟨rfl, Or.inr (h2 ▸ (by have h9 := hf2_0; rw [show (((opp (ptO v).toNat : Nat) : Int)).toNat = opp (ptO v).toNat from rfl, ho, ht] at h9; exact h9))⟩, rfl, rfl⟩
  · refine vv_iconst F zd_CR_roundOf_27 ?_
    exact vv_iret F zd_CR_roundOf_28 ⟨_, _, _, _, _, Or.inl ⟨rfl, Or.inl (h1 ▸ (by have h9 := hf1_0; rw [show (((opp (ptO v).toNat : Nat) : Int)).toNat = opp (ptO v).toNat from rfl, ho, ht] at h9; exact h9))⟩, rfl, rfl⟩
