set_option maxHeartbeats 4000000 in
set_option maxRecDepth 100000 in
theorem cn_MO_thrown (l : Launch) (G : vv_G) (mo : Nat) (th : Int) (n : Int) (ac : Int) (tha : Nat) (gk : Bool) (rea : Nat) (poa : Nat) (mn : Int) (cha : Nat) (goa : Nat) (lea : Nat) (nv : Int) (mm : Int) (fia : Nat) (sea : Nat) (ck : Bool) (sta : Nat) (lda : Nat) (vla : Nat) (gd : Bool) (fl : Int) (dia : Nat) (qua : Nat)  :
    vv_D l zy_MO_thrown zc_MO_thrown 1 (some .int) { frames := 0, cells := 0, slots := 0, locals := 0 } G [.ref mo] [ceO 7 mo [.int (iI th), .int (iI n), .int (iI ac), .ref tha, .int (iI (bZ gk)), .ref rea, .ref poa, .int (iI mn), .ref cha, .ref goa, .ref lea, .int (iI nv), .int (iI mm), .ref fia, .ref sea, .int (iI (bZ ck)), .ref sta, .ref lda, .ref vla, .int (iI (bZ gd)), .int (iI fl), .ref dia, .ref qua]] (some (.int (iI th))) [ceO 7 mo [.int (iI th), .int (iI n), .int (iI ac), .ref tha, .int (iI (bZ gk)), .ref rea, .ref poa, .int (iI mn), .ref cha, .ref goa, .ref lea, .int (iI nv), .int (iI mm), .ref fia, .ref sea, .int (iI (bZ ck)), .ref sta, .ref lda, .ref vla, .int (iI (bZ gd)), .int (iI fl), .ref dia, .ref qua]] := by
  refine vv_met (by decide +kernel) (Nat.le_of_ble_eq_true rfl) rfl ?_
  intro p e s m args below meth c A F
  refine vv_aload_n F zd_MO_thrown_0 rfl 0 rfl ?_
  refine vv_get F zd_MO_thrown_1 zf_MO 0 rfl rfl 0 (by decide) zw_756 rfl ?_
  exact vv_iret F zd_MO_thrown_4 ⟨rfl, rfl⟩

/-- the reference's variables, clause, drop -/
def mvar (nv mm : Int) (ck : Bool) (u th2 nv2 mm2 : Int) (ck2 : Bool) : Prop :=
  ((u < 1 ∨ 80 < u) ∧ th2 = 1 ∧ nv2 = nv ∧ mm2 = mm ∧ ck2 = ck) ∨ ((1 ≤ u ∧ u ≤ 80) ∧ th2 = 0 ∧ nv2 = u ∧ mm2 = 0 ∧ ck2 = false)
def nli (nv u : Int) : Prop := u = 0 ∨ u < -nv ∨ nv < u
def mcla (nv mm : Int) (ck : Bool) (f1 f2 : Nat → Int) (u v th2 mm2 : Int) (ck2 : Bool) (g1 g2 : Nat → Int) (z : Int) : Prop :=
  ((nli nv u ∨ nli nv v) ∧ th2 = 1 ∧ mm2 = mm ∧ ck2 = ck ∧ g1 = f1 ∧ g2 = f2 ∧ z = 0) ∨
  ((¬ nli nv u ∧ ¬ nli nv v) ∧ mm = 400 ∧ th2 = 0 ∧ mm2 = mm ∧ ck2 = ck ∧ g1 = f1 ∧ g2 = f2 ∧ z = -1) ∨
  ((¬ nli nv u ∧ ¬ nli nv v) ∧ mm < 400 ∧ th2 = 0 ∧ mm2 = mm + 1 ∧ ck2 = false ∧ g1 = va_up f1 mm.toNat u ∧ g2 = va_up f2 mm.toNat v ∧ z = mm + 1)
def mdro (mm : Int) (ck : Bool) (f1 f2 : Nat → Int) (u th2 mm2 : Int) (ck2 : Bool) (g1 g2 : Nat → Int) : Prop :=
  ((u < 0 ∨ mm ≤ u) ∧ th2 = 1 ∧ mm2 = mm ∧ ck2 = ck ∧ g1 = f1 ∧ g2 = f2) ∨ ((0 ≤ u ∧ u < mm) ∧ th2 = 0 ∧ mm2 = mm - 1 ∧ ck2 = false ∧ dpF f1 u (mm - 1) g1 ∧ dpF f2 u (mm - 1) g2)

set_option maxHeartbeats 4000000 in
set_option maxRecDepth 100000 in
theorem cn_MO_variables (l : Launch) (G : vv_G) (mo : Nat) (th : Int) (n : Int) (ac : Int) (tha : Nat) (gk : Bool) (rea : Nat) (poa : Nat) (mn : Int) (cha : Nat) (goa : Nat) (lea : Nat) (nv : Int) (mm : Int) (fia : Nat) (sea : Nat) (ck : Bool) (sta : Nat) (lda : Nat) (vla : Nat) (gd : Bool) (fl : Int) (dia : Nat) (qua : Nat) (u : Int) (hu : rg u) :
    vv_C l zy_MO_variables zc_MO_variables 2 none { frames := 0, cells := 0, slots := 0, locals := 0 } G [.ref mo, .int (iI u)] [ceO 7 mo [.int (iI th), .int (iI n), .int (iI ac), .ref tha, .int (iI (bZ gk)), .ref rea, .ref poa, .int (iI mn), .ref cha, .ref goa, .ref lea, .int (iI nv), .int (iI mm), .ref fia, .ref sea, .int (iI (bZ ck)), .ref sta, .ref lda, .ref vla, .int (iI (bZ gd)), .int (iI fl), .ref dia, .ref qua]] (fun v7 w7 => ∃ (th2 : Int) (nv2 : Int) (mm2 : Int) (ck2 : Bool), (mvar nv mm ck u th2 nv2 mm2 ck2) ∧ v7 = none ∧ w7 = [ceO 7 mo [.int (iI th2), .int (iI n), .int (iI ac), .ref tha, .int (iI (bZ gk)), .ref rea, .ref poa, .int (iI mn), .ref cha, .ref goa, .ref lea, .int (iI nv2), .int (iI mm2), .ref fia, .ref sea, .int (iI (bZ ck2)), .ref sta, .ref lda, .ref vla, .int (iI (bZ gd)), .int (iI fl), .ref dia, .ref qua]]) := by
  refine vv_met (by decide +kernel) (Nat.le_of_ble_eq_true rfl) rfl ?_
  intro p e s m args below meth c A F
  refine vv_aload_n F zd_MO_variables_0 rfl 0 rfl ?_
  refine vv_iload_n F zd_MO_variables_1 rfl 1 rfl ?_
  refine vv_iconst F zd_MO_variables_2 ?_
  refine vv_icmp_lt (tgt := 12) F zd_MO_variables_3 rfl (by first | exact ⟨by omega, by omega⟩ | exact hu) (by decide) (fun h1 => ?_) (fun h1 => ?_)
  · refine vv_iconst F zd_MO_variables_12 ?_
    refine vv_goto (tgt := 17) F zd_MO_variables_13 rfl ?_
    refine vv_put (v := .int (iI 1)) (ws' := [ceO 7 mo [.int (iI 1), .int (iI n), .int (iI ac), .ref tha, .int (iI (bZ gk)), .ref rea, .ref poa, .int (iI mn), .ref cha, .ref goa, .ref lea, .int (iI nv), .int (iI mm), .ref fia, .ref sea, .int (iI (bZ ck)), .ref sta, .ref lda, .ref vla, .int (iI (bZ gd)), .int (iI fl), .ref dia, .ref qua]]) F zd_MO_variables_17 zf_MO zt_MO_ok zn_MO 0 rfl rfl 0 (by decide) zw_756 rfl rfl rfl (Nat.le_of_ble_eq_true rfl) rfl ?_
    refine vv_aload_n F zd_MO_variables_20 rfl 0 rfl ?_
    refine vv_get F zd_MO_variables_21 zf_MO 0 rfl rfl 0 (by decide) zw_756 rfl ?_
    refine vv_if_ne (tgt := 42) F zd_MO_variables_24 rfl (by decide) (fun _ => ?_) (fun h9 => absurd h9 (by decide))
    exact vv_vret F zd_MO_variables_42 ⟨_, nv, mm, ck, Or.inl ⟨by omega, rfl, rfl, rfl, rfl⟩, rfl, rfl⟩
  · refine vv_iload_n F zd_MO_variables_6 rfl 1 rfl ?_
    refine vv_bipush F zd_MO_variables_7 (by decide) ?_
    refine vv_icmp_le (tgt := 16) F zd_MO_variables_9 rfl (by first | exact ⟨by omega, by omega⟩ | exact hu) (by decide) (fun h2 => ?_) (fun h2 => ?_)
    · refine vv_iconst F zd_MO_variables_16 ?_
      refine vv_put (v := .int (iI 0)) (ws' := [ceO 7 mo [.int (iI 0), .int (iI n), .int (iI ac), .ref tha, .int (iI (bZ gk)), .ref rea, .ref poa, .int (iI mn), .ref cha, .ref goa, .ref lea, .int (iI nv), .int (iI mm), .ref fia, .ref sea, .int (iI (bZ ck)), .ref sta, .ref lda, .ref vla, .int (iI (bZ gd)), .int (iI fl), .ref dia, .ref qua]]) F zd_MO_variables_17 zf_MO zt_MO_ok zn_MO 0 rfl rfl 0 (by decide) zw_756 rfl rfl rfl (Nat.le_of_ble_eq_true rfl) rfl ?_
      refine vv_aload_n F zd_MO_variables_20 rfl 0 rfl ?_
      refine vv_get F zd_MO_variables_21 zf_MO 0 rfl rfl 0 (by decide) zw_756 rfl ?_
      refine vv_if_ne (tgt := 42) F zd_MO_variables_24 rfl (by decide) (fun h9 => absurd h9 (by decide)) (fun _ => ?_)
      refine vv_aload_n F zd_MO_variables_27 rfl 0 rfl ?_
      refine vv_iload_n F zd_MO_variables_28 rfl 1 rfl ?_
      refine vv_put (v := .int (iI u)) (ws' := [ceO 7 mo [.int (iI 0), .int (iI n), .int (iI ac), .ref tha, .int (iI (bZ gk)), .ref rea, .ref poa, .int (iI mn), .ref cha, .ref goa, .ref lea, .int (iI u), .int (iI mm), .ref fia, .ref sea, .int (iI (bZ ck)), .ref sta, .ref lda, .ref vla, .int (iI (bZ gd)), .int (iI fl), .ref dia, .ref qua]]) F zd_MO_variables_29 zf_MO zt_MO_ok zn_MO 0 rfl rfl 11 (by decide) zw_767 rfl rfl rfl (Nat.le_of_ble_eq_true rfl) rfl ?_
      refine vv_aload_n F zd_MO_variables_32 rfl 0 rfl ?_
      refine vv_iconst F zd_MO_variables_33 ?_
      refine vv_put (v := .int (iI 0)) (ws' := [ceO 7 mo [.int (iI 0), .int (iI n), .int (iI ac), .ref tha, .int (iI (bZ gk)), .ref rea, .ref poa, .int (iI mn), .ref cha, .ref goa, .ref lea, .int (iI u), .int (iI 0), .ref fia, .ref sea, .int (iI (bZ ck)), .ref sta, .ref lda, .ref vla, .int (iI (bZ gd)), .int (iI fl), .ref dia, .ref qua]]) F zd_MO_variables_34 zf_MO zt_MO_ok zn_MO 0 rfl rfl 12 (by decide) zw_768 rfl rfl rfl (Nat.le_of_ble_eq_true rfl) rfl ?_
      refine vv_aload_n F zd_MO_variables_37 rfl 0 rfl ?_
      refine vv_iconst F zd_MO_variables_38 ?_
      refine vv_ti (show (0 : Int) = bZ false from rfl) ?_
      refine vv_put (v := .int (iI (bZ false))) (ws' := [ceO 7 mo [.int (iI 0), .int (iI n), .int (iI ac), .ref tha, .int (iI (bZ gk)), .ref rea, .ref poa, .int (iI mn), .ref cha, .ref goa, .ref lea, .int (iI u), .int (iI 0), .ref fia, .ref sea, .int (iI (bZ false)), .ref sta, .ref lda, .ref vla, .int (iI (bZ gd)), .int (iI fl), .ref dia, .ref qua]]) F zd_MO_variables_39 zf_MO zt_MO_ok zn_MO 0 rfl rfl 15 (by decide) zw_771 rfl (nb_bZ false) (fb_bZ false) (Nat.le_of_ble_eq_true rfl) rfl ?_
      exact vv_vret F zd_MO_variables_42 ⟨_, _, _, false, Or.inr ⟨⟨by omega, by omega⟩, rfl, rfl, rfl, rfl⟩, rfl, rfl⟩
    · refine vv_iconst F zd_MO_variables_12 ?_
      refine vv_goto (tgt := 17) F zd_MO_variables_13 rfl ?_
      refine vv_put (v := .int (iI 1)) (ws' := [ceO 7 mo [.int (iI 1), .int (iI n), .int (iI ac), .ref tha, .int (iI (bZ gk)), .ref rea, .ref poa, .int (iI mn), .ref cha, .ref goa, .ref lea, .int (iI nv), .int (iI mm), .ref fia, .ref sea, .int (iI (bZ ck)), .ref sta, .ref lda, .ref vla, .int (iI (bZ gd)), .int (iI fl), .ref dia, .ref qua]]) F zd_MO_variables_17 zf_MO zt_MO_ok zn_MO 0 rfl rfl 0 (by decide) zw_756 rfl rfl rfl (Nat.le_of_ble_eq_true rfl) rfl ?_
      refine vv_aload_n F zd_MO_variables_20 rfl 0 rfl ?_
      refine vv_get F zd_MO_variables_21 zf_MO 0 rfl rfl 0 (by decide) zw_756 rfl ?_
      refine vv_if_ne (tgt := 42) F zd_MO_variables_24 rfl (by decide) (fun _ => ?_) (fun h9 => absurd h9 (by decide))
      exact vv_vret F zd_MO_variables_42 ⟨_, nv, mm, ck, Or.inl ⟨by omega, rfl, rfl, rfl, rfl⟩, rfl, rfl⟩

set_option maxHeartbeats 4000000 in
set_option maxRecDepth 100000 in
theorem cn_MO_clause (l : Launch) (G : vv_G) (mo : Nat) (th : Int) (n : Int) (ac : Int) (tha : Nat) (gk : Bool) (rea : Nat) (poa : Nat) (mn : Int) (cha : Nat) (goa : Nat) (lea : Nat) (nv : Int) (mm : Int) (fia : Nat) (sea : Nat) (ck : Bool) (sta : Nat) (lda : Nat) (vla : Nat) (gd : Bool) (fl : Int) (dia : Nat) (qua : Nat) (f1 : Nat → Int) (f2 : Nat → Int) (u : Int) (v : Int) (hv : 1 ≤ nv ∧ nv ≤ 80) (hm : 0 ≤ mm ∧ mm ≤ 400) (hu : rg u) (hw : rg v) :
    vv_C l zy_MO_clause zc_MO_clause 3 (some .int) { frames := 1, cells := 0, slots := 0, locals := 21 } G [.ref mo, .int (iI u), .int (iI v)] [ceO 7 mo [.int (iI th), .int (iI n), .int (iI ac), .ref tha, .int (iI (bZ gk)), .ref rea, .ref poa, .int (iI mn), .ref cha, .ref goa, .ref lea, .int (iI nv), .int (iI mm), .ref fia, .ref sea, .int (iI (bZ ck)), .ref sta, .ref lda, .ref vla, .int (iI (bZ gd)), .int (iI fl), .ref dia, .ref qua], ceI G fia 400 f1, ceI G sea 400 f2] (fun v7 w7 => ∃ (th2 : Int) (mm2 : Int) (ck2 : Bool) (g1 : Nat → Int) (g2 : Nat → Int) (z : Int), (mcla nv mm ck f1 f2 u v th2 mm2 ck2 g1 g2 z) ∧ v7 = some (.int (iI z)) ∧ w7 = [ceO 7 mo [.int (iI th2), .int (iI n), .int (iI ac), .ref tha, .int (iI (bZ gk)), .ref rea, .ref poa, .int (iI mn), .ref cha, .ref goa, .ref lea, .int (iI nv), .int (iI mm2), .ref fia, .ref sea, .int (iI (bZ ck2)), .ref sta, .ref lda, .ref vla, .int (iI (bZ gd)), .int (iI fl), .ref dia, .ref qua], ceI G fia 400 g1, ceI G sea 400 g2]) := by
  refine vv_met (by decide +kernel) (Nat.le_of_ble_eq_true rfl) rfl ?_
  intro p e s m args below meth c A F
  refine vv_aload_n F zd_MO_clause_0 rfl 0 rfl ?_
  refine vv_aload_n F zd_MO_clause_1 rfl 0 rfl ?_
  refine vv_iload_n F zd_MO_clause_2 rfl 1 rfl ?_
  refine vv_callV (q0 := 0) (As := [.int (iI u)]) (rest := [.ref mo]) (wr := [ceI G fia 400 f1, ceI G sea 400 f2]) F (cn_MO_noLiteral l G mo th n ac tha gk rea poa mn cha goa lea nv mm fia sea ck sta lda vla gd fl dia qua u hu ⟨by omega, by omega⟩) zm_MO_noLiteral ⟨zw_929, zs_MO_noLiteral⟩ zw_927 zd_MO_clause_3 ⟨by decide, by decide⟩ ⟨by decide, by decide⟩ [0] [1, 2] rfl rfl ⟨rfl, rfl, by decide⟩ rfl rfl rfl rfl (Nat.le_of_ble_eq_true rfl) (vv_then (ws' := [ceO 7 mo [.int (iI th), .int (iI n), .int (iI ac), .ref tha, .int (iI (bZ gk)), .ref rea, .ref poa, .int (iI mn), .ref cha, .ref goa, .ref lea, .int (iI nv), .int (iI mm), .ref fia, .ref sea, .int (iI (bZ ck)), .ref sta, .ref lda, .ref vla, .int (iI (bZ gd)), .int (iI fl), .ref dia, .ref qua], ceI G fia 400 f1, ceI G sea 400 f2]) (st' := [.int (iI (bZ (decide (u = 0 ∨ u < -nv ∨ nv < u)))), .ref mo]) [2, 0, 1] rfl rfl rfl ?_)
  refine vv_if_ne (tgt := 17) F zd_MO_clause_6 rfl (bZ_rg _) (fun h1 => ?_) (fun h1 => ?_)
  · have h1 : (decide (u = 0 ∨ u < -nv ∨ nv < u)) = true := by cases hb9 : (decide (u = 0 ∨ u < -nv ∨ nv < u)) with | true => rfl | false => exact absurd ((bZ_0 _).mpr hb9) h1
    have h1 := of_decide_eq_true h1
    refine vv_iconst F zd_MO_clause_17 ?_
    refine vv_goto (tgt := 22) F zd_MO_clause_18 rfl ?_
    refine vv_put (v := .int (iI 1)) (ws' := [ceO 7 mo [.int (iI 1), .int (iI n), .int (iI ac), .ref tha, .int (iI (bZ gk)), .ref rea, .ref poa, .int (iI mn), .ref cha, .ref goa, .ref lea, .int (iI nv), .int (iI mm), .ref fia, .ref sea, .int (iI (bZ ck)), .ref sta, .ref lda, .ref vla, .int (iI (bZ gd)), .int (iI fl), .ref dia, .ref qua], ceI G fia 400 f1, ceI G sea 400 f2]) F zd_MO_clause_22 zf_MO zt_MO_ok zn_MO 0 rfl rfl 0 (by decide) zw_756 rfl rfl rfl (Nat.le_of_ble_eq_true rfl) rfl ?_
    refine vv_aload_n F zd_MO_clause_25 rfl 0 rfl ?_
    refine vv_get F zd_MO_clause_26 zf_MO 0 rfl rfl 0 (by decide) zw_756 rfl ?_
    refine vv_if_le (tgt := 34) F zd_MO_clause_29 rfl (by decide) (fun h9 => absurd h9 (by decide)) (fun _ => ?_)
    refine vv_iconst F zd_MO_clause_32 ?_
    exact vv_iret F zd_MO_clause_33 ⟨_, mm, ck, f1, f2, _, Or.inl ⟨by unfold nli; omega, rfl, rfl, rfl, rfl, rfl, rfl⟩, rfl, rfl⟩
  · have h1 : (decide (u = 0 ∨ u < -nv ∨ nv < u)) = false := (bZ_0 _).mp h1
    have h1 := of_decide_eq_false h1
    refine vv_aload_n F zd_MO_clause_9 rfl 0 rfl ?_
    refine vv_iload_n F zd_MO_clause_10 rfl 2 rfl ?_
    refine vv_callV (q0 := 0) (As := [.int (iI v)]) (rest := [.ref mo]) (wr := [ceI G fia 400 f1, ceI G sea 400 f2]) F (cn_MO_noLiteral l G mo th n ac tha gk rea poa mn cha goa lea nv mm fia sea ck sta lda vla gd fl dia qua v hw ⟨by omega, by omega⟩) zm_MO_noLiteral ⟨zw_929, zs_MO_noLiteral⟩ zw_927 zd_MO_clause_11 ⟨by decide, by decide⟩ ⟨by decide, by decide⟩ [0] [1, 2] rfl rfl ⟨rfl, rfl, by decide⟩ rfl rfl rfl rfl (Nat.le_of_ble_eq_true rfl) (vv_then (ws' := [ceO 7 mo [.int (iI th), .int (iI n), .int (iI ac), .ref tha, .int (iI (bZ gk)), .ref rea, .ref poa, .int (iI mn), .ref cha, .ref goa, .ref lea, .int (iI nv), .int (iI mm), .ref fia, .ref sea, .int (iI (bZ ck)), .ref sta, .ref lda, .ref vla, .int (iI (bZ gd)), .int (iI fl), .ref dia, .ref qua], ceI G fia 400 f1, ceI G sea 400 f2]) (st' := [.int (iI (bZ (decide (v = 0 ∨ v < -nv ∨ nv < v)))), .ref mo]) [2, 0, 1] rfl rfl rfl ?_)
    refine vv_if_eq (tgt := 21) F zd_MO_clause_14 rfl (bZ_rg _) (fun h2 => ?_) (fun h2 => ?_)
    · have h2 : (decide (v = 0 ∨ v < -nv ∨ nv < v)) = false := (bZ_0 _).mp h2
      have h2 := of_decide_eq_false h2
      refine vv_iconst F zd_MO_clause_21 ?_
      refine vv_put (v := .int (iI 0)) (ws' := [ceO 7 mo [.int (iI 0), .int (iI n), .int (iI ac), .ref tha, .int (iI (bZ gk)), .ref rea, .ref poa, .int (iI mn), .ref cha, .ref goa, .ref lea, .int (iI nv), .int (iI mm), .ref fia, .ref sea, .int (iI (bZ ck)), .ref sta, .ref lda, .ref vla, .int (iI (bZ gd)), .int (iI fl), .ref dia, .ref qua], ceI G fia 400 f1, ceI G sea 400 f2]) F zd_MO_clause_22 zf_MO zt_MO_ok zn_MO 0 rfl rfl 0 (by decide) zw_756 rfl rfl rfl (Nat.le_of_ble_eq_true rfl) rfl ?_
      refine vv_aload_n F zd_MO_clause_25 rfl 0 rfl ?_
      refine vv_get F zd_MO_clause_26 zf_MO 0 rfl rfl 0 (by decide) zw_756 rfl ?_
      refine vv_if_le (tgt := 34) F zd_MO_clause_29 rfl (by decide) (fun _ => ?_) (fun h9 => absurd h9 (by decide))
      refine vv_aload_n F zd_MO_clause_34 rfl 0 rfl ?_
      refine vv_get F zd_MO_clause_35 zf_MO 0 rfl rfl 12 (by decide) zw_768 rfl ?_
      refine vv_sipush F zd_MO_clause_38 (by decide) ?_
      refine vv_icmp_ne (tgt := 46) F zd_MO_clause_41 rfl (by first | exact ⟨by omega, by omega⟩ | exact hu | exact hw) (by decide) (fun h3 => ?_) (fun h3 => ?_)
      · refine vv_aload_n F zd_MO_clause_46 rfl 0 rfl ?_
        refine vv_get F zd_MO_clause_47 zf_MO 0 rfl rfl 13 (by decide) zw_769 rfl ?_
        refine vv_aload_n F zd_MO_clause_50 rfl 0 rfl ?_
        refine vv_get F zd_MO_clause_51 zf_MO 0 rfl rfl 12 (by decide) zw_768 rfl ?_
        refine vv_iload_n F zd_MO_clause_54 rfl 1 rfl ?_
        refine vv_iast (x := u) (ws' := [ceO 7 mo [.int (iI 0), .int (iI n), .int (iI ac), .ref tha, .int (iI (bZ gk)), .ref rea, .ref poa, .int (iI mn), .ref cha, .ref goa, .ref lea, .int (iI nv), .int (iI mm), .ref fia, .ref sea, .int (iI (bZ ck)), .ref sta, .ref lda, .ref vla, .int (iI (bZ gd)), .int (iI fl), .ref dia, .ref qua], ceI G fia 400 (va_up f1 mm.toNat u), ceI G sea 400 f2]) F zd_MO_clause_55 1 rfl ⟨by omega, by omega⟩ (by decide) rfl ?_
        refine vv_aload_n F zd_MO_clause_56 rfl 0 rfl ?_
        refine vv_get F zd_MO_clause_57 zf_MO 0 rfl rfl 14 (by decide) zw_770 rfl ?_
        refine vv_aload_n F zd_MO_clause_60 rfl 0 rfl ?_
        refine vv_get F zd_MO_clause_61 zf_MO 0 rfl rfl 12 (by decide) zw_768 rfl ?_
        refine vv_iload_n F zd_MO_clause_64 rfl 2 rfl ?_
        refine vv_iast (x := v) (ws' := [ceO 7 mo [.int (iI 0), .int (iI n), .int (iI ac), .ref tha, .int (iI (bZ gk)), .ref rea, .ref poa, .int (iI mn), .ref cha, .ref goa, .ref lea, .int (iI nv), .int (iI mm), .ref fia, .ref sea, .int (iI (bZ ck)), .ref sta, .ref lda, .ref vla, .int (iI (bZ gd)), .int (iI fl), .ref dia, .ref qua], ceI G fia 400 (va_up f1 mm.toNat u), ceI G sea 400 (va_up f2 mm.toNat v)]) F zd_MO_clause_65 2 rfl ⟨by omega, by omega⟩ (by decide) rfl ?_
        refine vv_aload_n F zd_MO_clause_66 rfl 0 rfl ?_
        refine vv_dup F zd_MO_clause_67 rfl ?_
        refine vv_get F zd_MO_clause_68 zf_MO 0 rfl rfl 12 (by decide) zw_768 rfl ?_
        refine vv_iconst F zd_MO_clause_71 ?_
        refine vv_iadd F zd_MO_clause_72 ?_
        refine vv_put (v := .int (iI (mm + 1))) (ws' := [ceO 7 mo [.int (iI 0), .int (iI n), .int (iI ac), .ref tha, .int (iI (bZ gk)), .ref rea, .ref poa, .int (iI mn), .ref cha, .ref goa, .ref lea, .int (iI nv), .int (iI (mm + 1)), .ref fia, .ref sea, .int (iI (bZ ck)), .ref sta, .ref lda, .ref vla, .int (iI (bZ gd)), .int (iI fl), .ref dia, .ref qua], ceI G fia 400 (va_up f1 mm.toNat u), ceI G sea 400 (va_up f2 mm.toNat v)]) F zd_MO_clause_73 zf_MO zt_MO_ok zn_MO 0 rfl rfl 12 (by decide) zw_768 rfl rfl rfl (Nat.le_of_ble_eq_true rfl) rfl ?_
        refine vv_aload_n F zd_MO_clause_76 rfl 0 rfl ?_
        refine vv_iconst F zd_MO_clause_77 ?_
        refine vv_ti (show (0 : Int) = bZ false from rfl) ?_
        refine vv_put (v := .int (iI (bZ false))) (ws' := [ceO 7 mo [.int (iI 0), .int (iI n), .int (iI ac), .ref tha, .int (iI (bZ gk)), .ref rea, .ref poa, .int (iI mn), .ref cha, .ref goa, .ref lea, .int (iI nv), .int (iI (mm + 1)), .ref fia, .ref sea, .int (iI (bZ false)), .ref sta, .ref lda, .ref vla, .int (iI (bZ gd)), .int (iI fl), .ref dia, .ref qua], ceI G fia 400 (va_up f1 mm.toNat u), ceI G sea 400 (va_up f2 mm.toNat v)]) F zd_MO_clause_78 zf_MO zt_MO_ok zn_MO 0 rfl rfl 15 (by decide) zw_771 rfl (nb_bZ false) (fb_bZ false) (Nat.le_of_ble_eq_true rfl) rfl ?_
        refine vv_aload_n F zd_MO_clause_81 rfl 0 rfl ?_
        refine vv_get F zd_MO_clause_82 zf_MO 0 rfl rfl 12 (by decide) zw_768 rfl ?_
        exact vv_iret F zd_MO_clause_85 ⟨_, _, false, _, _, _, Or.inr (Or.inr ⟨⟨by unfold nli; omega, by unfold nli; omega⟩, by omega, rfl, rfl, rfl, rfl, rfl, rfl⟩), rfl, rfl⟩
      · refine vv_iconst F zd_MO_clause_44 ?_
        exact vv_iret F zd_MO_clause_45 ⟨_, mm, ck, f1, f2, _, Or.inr (Or.inl ⟨⟨by unfold nli; omega, by unfold nli; omega⟩, by omega, rfl, rfl, rfl, rfl, rfl, rfl⟩), rfl, rfl⟩
    · have h2 : (decide (v = 0 ∨ v < -nv ∨ nv < v)) = true := by cases hb9 : (decide (v = 0 ∨ v < -nv ∨ nv < v)) with | true => rfl | false => exact absurd ((bZ_0 _).mpr hb9) h2
      have h2 := of_decide_eq_true h2
      refine vv_iconst F zd_MO_clause_17 ?_
      refine vv_goto (tgt := 22) F zd_MO_clause_18 rfl ?_
      refine vv_put (v := .int (iI 1)) (ws' := [ceO 7 mo [.int (iI 1), .int (iI n), .int (iI ac), .ref tha, .int (iI (bZ gk)), .ref rea, .ref poa, .int (iI mn), .ref cha, .ref goa, .ref lea, .int (iI nv), .int (iI mm), .ref fia, .ref sea, .int (iI (bZ ck)), .ref sta, .ref lda, .ref vla, .int (iI (bZ gd)), .int (iI fl), .ref dia, .ref qua], ceI G fia 400 f1, ceI G sea 400 f2]) F zd_MO_clause_22 zf_MO zt_MO_ok zn_MO 0 rfl rfl 0 (by decide) zw_756 rfl rfl rfl (Nat.le_of_ble_eq_true rfl) rfl ?_
      refine vv_aload_n F zd_MO_clause_25 rfl 0 rfl ?_
      refine vv_get F zd_MO_clause_26 zf_MO 0 rfl rfl 0 (by decide) zw_756 rfl ?_
      refine vv_if_le (tgt := 34) F zd_MO_clause_29 rfl (by decide) (fun h9 => absurd h9 (by decide)) (fun _ => ?_)
      refine vv_iconst F zd_MO_clause_32 ?_
      exact vv_iret F zd_MO_clause_33 ⟨_, mm, ck, f1, f2, _, Or.inl ⟨by unfold nli; omega, rfl, rfl, rfl, rfl, rfl, rfl⟩, rfl, rfl⟩

set_option maxHeartbeats 4000000 in
set_option maxRecDepth 100000 in
theorem lp_MO_dr {p : Program} {l : Launch} {e : Env} {s : State} {m : MethodId} {args : Array Value} {below : List Frame} {meth : Method} {c : Code} {A : Nat → Prop} {Q : State → Prop} {G : vv_G} (F : vv_F p s m args meth c zc_MO_drop "ClauseGraphModel" "drop" none G A 3) (mo : Nat) (th : Int) (n : Int) (ac : Int) (tha : Nat) (gk : Bool) (rea : Nat) (poa : Nat) (mn : Int) (cha : Nat) (goa : Nat) (lea : Nat) (nv : Int) (mm : Int) (fia : Nat) (sea : Nat) (ck : Bool) (sta : Nat) (lda : Nat) (vla : Nat) (gd : Bool) (fl : Int) (dia : Nat) (qua : Nat) (f1 : Nat → Int) (f2 : Nat → Int) (u : Int) (hm : 0 ≤ mm ∧ mm < 400) (hu : 0 ≤ u ∧ u ≤ mm)
    (k : ∀ (g1 : Nat → Int) (g2 : Nat → Int), (u ≤ mm ∧ dpF f1 u mm g1 ∧ dpF f2 u mm g2) → vv_V p l e { frames := 0, cells := 0, slots := 0, locals := 0 } s m args below meth c G A 3 Q 83 [(0, .ref mo), (1, .int (iI u)), (2, .int (iI mm))] [] [ceO 7 mo [.int (iI th), .int (iI n), .int (iI ac), .ref tha, .int (iI (bZ gk)), .ref rea, .ref poa, .int (iI mn), .ref cha, .ref goa, .ref lea, .int (iI nv), .int (iI mm), .ref fia, .ref sea, .int (iI (bZ ck)), .ref sta, .ref lda, .ref vla, .int (iI (bZ gd)), .int (iI fl), .ref dia, .ref qua], ceI G fia 400 g1, ceI G sea 400 g2] 0 0)  :
    ∀ (d : Nat) (i : Int) (g1 : Nat → Int) (g2 : Nat → Int), i + (d : Int) = mm → (u ≤ i ∧ dpF f1 u i g1 ∧ dpF f2 u i g2) → vv_V p l e { frames := 0, cells := 0, slots := 0, locals := 0 } s m args below meth c G A 3 Q 41 [(0, .ref mo), (1, .int (iI u)), (2, .int (iI i))] [] [ceO 7 mo [.int (iI th), .int (iI n), .int (iI ac), .ref tha, .int (iI (bZ gk)), .ref rea, .ref poa, .int (iI mn), .ref cha, .ref goa, .ref lea, .int (iI nv), .int (iI mm), .ref fia, .ref sea, .int (iI (bZ ck)), .ref sta, .ref lda, .ref vla, .int (iI (bZ gd)), .int (iI fl), .ref dia, .ref qua], ceI G fia 400 g1, ceI G sea 400 g2] 0 0 := by
  intro d
  induction d with
  | zero =>
    intro i g1 g2 hd hI
    have hz : i = mm := by omega
    subst hz
    refine vv_iload_n F zd_MO_drop_41 rfl 2 rfl ?_
    refine vv_aload_n F zd_MO_drop_42 rfl 0 rfl ?_
    refine vv_get F zd_MO_drop_43 zf_MO 0 rfl rfl 12 (by decide) zw_768 rfl ?_
    refine vv_icmp_ge (tgt := 83) F zd_MO_drop_46 rfl (by first | exact ⟨by omega, by omega⟩) (by first | exact ⟨by omega, by omega⟩) (fun _ => ?_) (fun h9 => absurd h9 (by omega))
    exact k g1 g2 hI
  | succ d ih =>
    intro i g1 g2 hd hI
    refine vv_iload_n F zd_MO_drop_41 rfl 2 rfl ?_
    refine vv_aload_n F zd_MO_drop_42 rfl 0 rfl ?_
    refine vv_get F zd_MO_drop_43 zf_MO 0 rfl rfl 12 (by decide) zw_768 rfl ?_
    refine vv_icmp_ge (tgt := 83) F zd_MO_drop_46 rfl (by first | exact ⟨by omega, by omega⟩) (by first | exact ⟨by omega, by omega⟩) (fun h9 => absurd h9 (by omega)) (fun _ => ?_)
    refine vv_aload_n F zd_MO_drop_49 rfl 0 rfl ?_
    refine vv_get F zd_MO_drop_50 zf_MO 0 rfl rfl 13 (by decide) zw_769 rfl ?_
    refine vv_iload_n F zd_MO_drop_53 rfl 2 rfl ?_
    refine vv_aload_n F zd_MO_drop_54 rfl 0 rfl ?_
    refine vv_get F zd_MO_drop_55 zf_MO 0 rfl rfl 13 (by decide) zw_769 rfl ?_
    refine vv_iload_n F zd_MO_drop_58 rfl 2 rfl ?_
    refine vv_iconst F zd_MO_drop_59 ?_
    refine vv_iadd F zd_MO_drop_60 ?_
    refine vv_iald F zd_MO_drop_61 1 rfl ⟨by omega, by omega⟩ (by decide) ?_
    refine vv_iast (x := g1 (i + 1).toNat) (ws' := [ceO 7 mo [.int (iI th), .int (iI n), .int (iI ac), .ref tha, .int (iI (bZ gk)), .ref rea, .ref poa, .int (iI mn), .ref cha, .ref goa, .ref lea, .int (iI nv), .int (iI mm), .ref fia, .ref sea, .int (iI (bZ ck)), .ref sta, .ref lda, .ref vla, .int (iI (bZ gd)), .int (iI fl), .ref dia, .ref qua], ceI G fia 400 (va_up g1 i.toNat (g1 (i + 1).toNat)), ceI G sea 400 g2]) F zd_MO_drop_62 1 rfl ⟨by omega, by omega⟩ (by decide) rfl ?_
    refine vv_aload_n F zd_MO_drop_63 rfl 0 rfl ?_
    refine vv_get F zd_MO_drop_64 zf_MO 0 rfl rfl 14 (by decide) zw_770 rfl ?_
    refine vv_iload_n F zd_MO_drop_67 rfl 2 rfl ?_
    refine vv_aload_n F zd_MO_drop_68 rfl 0 rfl ?_
    refine vv_get F zd_MO_drop_69 zf_MO 0 rfl rfl 14 (by decide) zw_770 rfl ?_
    refine vv_iload_n F zd_MO_drop_72 rfl 2 rfl ?_
    refine vv_iconst F zd_MO_drop_73 ?_
    refine vv_iadd F zd_MO_drop_74 ?_
    refine vv_iald F zd_MO_drop_75 2 rfl ⟨by omega, by omega⟩ (by decide) ?_
    refine vv_iast (x := g2 (i + 1).toNat) (ws' := [ceO 7 mo [.int (iI th), .int (iI n), .int (iI ac), .ref tha, .int (iI (bZ gk)), .ref rea, .ref poa, .int (iI mn), .ref cha, .ref goa, .ref lea, .int (iI nv), .int (iI mm), .ref fia, .ref sea, .int (iI (bZ ck)), .ref sta, .ref lda, .ref vla, .int (iI (bZ gd)), .int (iI fl), .ref dia, .ref qua], ceI G fia 400 (va_up g1 i.toNat (g1 (i + 1).toNat)), ceI G sea 400 (va_up g2 i.toNat (g2 (i + 1).toNat))]) F zd_MO_drop_76 2 rfl ⟨by omega, by omega⟩ (by decide) rfl ?_
    refine vv_iinc (j := 2) (lv' := [(0, .ref mo), (1, .int (iI u)), (2, .int (iI (i + 1)))]) F zd_MO_drop_77 rfl (by decide) [1, 2, 0] rfl ?_
    refine vv_goto (tgt := 41) F zd_MO_drop_80 rfl ?_
    exact ih (i + 1) (va_up g1 i.toNat (g1 (i + 1).toNat)) (va_up g2 i.toNat (g2 (i + 1).toNat)) (by omega) (⟨by omega, dpF_s hI.2.1 (by omega) (by omega), dpF_s hI.2.2 (by omega) (by omega)⟩)

set_option maxHeartbeats 4000000 in
set_option maxRecDepth 100000 in
theorem cn_MO_drop (l : Launch) (G : vv_G) (mo : Nat) (th : Int) (n : Int) (ac : Int) (tha : Nat) (gk : Bool) (rea : Nat) (poa : Nat) (mn : Int) (cha : Nat) (goa : Nat) (lea : Nat) (nv : Int) (mm : Int) (fia : Nat) (sea : Nat) (ck : Bool) (sta : Nat) (lda : Nat) (vla : Nat) (gd : Bool) (fl : Int) (dia : Nat) (qua : Nat) (f1 : Nat → Int) (f2 : Nat → Int) (u : Int) (hm : 0 ≤ mm ∧ mm ≤ 400) (hu : rg u) :
    vv_C l zy_MO_drop zc_MO_drop 3 none { frames := 0, cells := 0, slots := 0, locals := 0 } G [.ref mo, .int (iI u)] [ceO 7 mo [.int (iI th), .int (iI n), .int (iI ac), .ref tha, .int (iI (bZ gk)), .ref rea, .ref poa, .int (iI mn), .ref cha, .ref goa, .ref lea, .int (iI nv), .int (iI mm), .ref fia, .ref sea, .int (iI (bZ ck)), .ref sta, .ref lda, .ref vla, .int (iI (bZ gd)), .int (iI fl), .ref dia, .ref qua], ceI G fia 400 f1, ceI G sea 400 f2] (fun v7 w7 => ∃ (th2 : Int) (mm2 : Int) (ck2 : Bool) (g1 : Nat → Int) (g2 : Nat → Int), (mdro mm ck f1 f2 u th2 mm2 ck2 g1 g2) ∧ v7 = none ∧ w7 = [ceO 7 mo [.int (iI th2), .int (iI n), .int (iI ac), .ref tha, .int (iI (bZ gk)), .ref rea, .ref poa, .int (iI mn), .ref cha, .ref goa, .ref lea, .int (iI nv), .int (iI mm2), .ref fia, .ref sea, .int (iI (bZ ck2)), .ref sta, .ref lda, .ref vla, .int (iI (bZ gd)), .int (iI fl), .ref dia, .ref qua], ceI G fia 400 g1, ceI G sea 400 g2]) := by
  refine vv_met (by decide +kernel) (Nat.le_of_ble_eq_true rfl) rfl ?_
  intro p e s m args below meth c A F
  refine vv_aload_n F zd_MO_drop_0 rfl 0 rfl ?_
  refine vv_iload_n F zd_MO_drop_1 rfl 1 rfl ?_
  refine vv_if_lt (tgt := 13) F zd_MO_drop_2 rfl (by first | exact ⟨by omega, by omega⟩ | exact hu) (fun h1 => ?_) (fun h1 => ?_)
  · refine vv_iconst F zd_MO_drop_13 ?_
    refine vv_goto (tgt := 18) F zd_MO_drop_14 rfl ?_
    refine vv_put (v := .int (iI 1)) (ws' := [ceO 7 mo [.int (iI 1), .int (iI n), .int (iI ac), .ref tha, .int (iI (bZ gk)), .ref rea, .ref poa, .int (iI mn), .ref cha, .ref goa, .ref lea, .int (iI nv), .int (iI mm), .ref fia, .ref sea, .int (iI (bZ ck)), .ref sta, .ref lda, .ref vla, .int (iI (bZ gd)), .int (iI fl), .ref dia, .ref qua], ceI G fia 400 f1, ceI G sea 400 f2]) F zd_MO_drop_18 zf_MO zt_MO_ok zn_MO 0 rfl rfl 0 (by decide) zw_756 rfl rfl rfl (Nat.le_of_ble_eq_true rfl) rfl ?_
    refine vv_aload_n F zd_MO_drop_21 rfl 0 rfl ?_
    refine vv_get F zd_MO_drop_22 zf_MO 0 rfl rfl 0 (by decide) zw_756 rfl ?_
    refine vv_if_le (tgt := 29) F zd_MO_drop_25 rfl (by decide) (fun h9 => absurd h9 (by decide)) (fun _ => ?_)
    exact vv_vret F zd_MO_drop_28 ⟨_, mm, ck, f1, f2, Or.inl ⟨by omega, rfl, rfl, rfl, rfl, rfl⟩, rfl, rfl⟩
  · refine vv_iload_n F zd_MO_drop_5 rfl 1 rfl ?_
    refine vv_aload_n F zd_MO_drop_6 rfl 0 rfl ?_
    refine vv_get F zd_MO_drop_7 zf_MO 0 rfl rfl 12 (by decide) zw_768 rfl ?_
    refine vv_icmp_lt (tgt := 17) F zd_MO_drop_10 rfl (by first | exact ⟨by omega, by omega⟩ | exact hu) (by first | exact ⟨by omega, by omega⟩ | exact hu) (fun h2 => ?_) (fun h2 => ?_)
    · refine vv_iconst F zd_MO_drop_17 ?_
      refine vv_put (v := .int (iI 0)) (ws' := [ceO 7 mo [.int (iI 0), .int (iI n), .int (iI ac), .ref tha, .int (iI (bZ gk)), .ref rea, .ref poa, .int (iI mn), .ref cha, .ref goa, .ref lea, .int (iI nv), .int (iI mm), .ref fia, .ref sea, .int (iI (bZ ck)), .ref sta, .ref lda, .ref vla, .int (iI (bZ gd)), .int (iI fl), .ref dia, .ref qua], ceI G fia 400 f1, ceI G sea 400 f2]) F zd_MO_drop_18 zf_MO zt_MO_ok zn_MO 0 rfl rfl 0 (by decide) zw_756 rfl rfl rfl (Nat.le_of_ble_eq_true rfl) rfl ?_
      refine vv_aload_n F zd_MO_drop_21 rfl 0 rfl ?_
      refine vv_get F zd_MO_drop_22 zf_MO 0 rfl rfl 0 (by decide) zw_756 rfl ?_
      refine vv_if_le (tgt := 29) F zd_MO_drop_25 rfl (by decide) (fun _ => ?_) (fun h9 => absurd h9 (by decide))
      refine vv_aload_n F zd_MO_drop_29 rfl 0 rfl ?_
      refine vv_dup F zd_MO_drop_30 rfl ?_
      refine vv_get F zd_MO_drop_31 zf_MO 0 rfl rfl 12 (by decide) zw_768 rfl ?_
      refine vv_iconst F zd_MO_drop_34 ?_
      refine vv_isub F zd_MO_drop_35 ?_
      refine vv_put (v := .int (iI (mm - 1))) (ws' := [ceO 7 mo [.int (iI 0), .int (iI n), .int (iI ac), .ref tha, .int (iI (bZ gk)), .ref rea, .ref poa, .int (iI mn), .ref cha, .ref goa, .ref lea, .int (iI nv), .int (iI (mm - 1)), .ref fia, .ref sea, .int (iI (bZ ck)), .ref sta, .ref lda, .ref vla, .int (iI (bZ gd)), .int (iI fl), .ref dia, .ref qua], ceI G fia 400 f1, ceI G sea 400 f2]) F zd_MO_drop_36 zf_MO zt_MO_ok zn_MO 0 rfl rfl 12 (by decide) zw_768 rfl rfl rfl (Nat.le_of_ble_eq_true rfl) rfl ?_
      refine vv_iload_n F zd_MO_drop_39 rfl 1 rfl ?_
      refine vv_istore_n (lv' := [(0, .ref mo), (1, .int (iI u)), (2, .int (iI u))]) F zd_MO_drop_40 rfl (by decide) [1, 2, 0] rfl ?_
      refine lp_MO_dr F mo 0 n ac tha gk rea poa mn cha goa lea nv (mm - 1) fia sea ck sta lda vla gd fl dia qua f1 f2 u ⟨by omega, by omega⟩ ⟨by omega, by omega⟩ (fun g8 g9 hI => ?_) (mm - 1 - u).toNat u f1 f2 (by omega) ⟨by omega, dpF_0, dpF_0⟩
      refine vv_aload_n F zd_MO_drop_83 rfl 0 rfl ?_
      refine vv_iconst F zd_MO_drop_84 ?_
      refine vv_ti (show (0 : Int) = bZ false from rfl) ?_
      refine vv_put (v := .int (iI (bZ false))) (ws' := [ceO 7 mo [.int (iI 0), .int (iI n), .int (iI ac), .ref tha, .int (iI (bZ gk)), .ref rea, .ref poa, .int (iI mn), .ref cha, .ref goa, .ref lea, .int (iI nv), .int (iI (mm - 1)), .ref fia, .ref sea, .int (iI (bZ false)), .ref sta, .ref lda, .ref vla, .int (iI (bZ gd)), .int (iI fl), .ref dia, .ref qua], ceI G fia 400 g8, ceI G sea 400 g9]) F zd_MO_drop_85 zf_MO zt_MO_ok zn_MO 0 rfl rfl 15 (by decide) zw_771 rfl (nb_bZ false) (fb_bZ false) (Nat.le_of_ble_eq_true rfl) rfl ?_
      exact vv_vret F zd_MO_drop_88 ⟨_, _, false, _, _, Or.inr ⟨⟨by omega, by omega⟩, rfl, rfl, rfl, hI.2.1, hI.2.2⟩, rfl, rfl⟩
    · refine vv_iconst F zd_MO_drop_13 ?_
      refine vv_goto (tgt := 18) F zd_MO_drop_14 rfl ?_
      refine vv_put (v := .int (iI 1)) (ws' := [ceO 7 mo [.int (iI 1), .int (iI n), .int (iI ac), .ref tha, .int (iI (bZ gk)), .ref rea, .ref poa, .int (iI mn), .ref cha, .ref goa, .ref lea, .int (iI nv), .int (iI mm), .ref fia, .ref sea, .int (iI (bZ ck)), .ref sta, .ref lda, .ref vla, .int (iI (bZ gd)), .int (iI fl), .ref dia, .ref qua], ceI G fia 400 f1, ceI G sea 400 f2]) F zd_MO_drop_18 zf_MO zt_MO_ok zn_MO 0 rfl rfl 0 (by decide) zw_756 rfl rfl rfl (Nat.le_of_ble_eq_true rfl) rfl ?_
      refine vv_aload_n F zd_MO_drop_21 rfl 0 rfl ?_
      refine vv_get F zd_MO_drop_22 zf_MO 0 rfl rfl 0 (by decide) zw_756 rfl ?_
      refine vv_if_le (tgt := 29) F zd_MO_drop_25 rfl (by decide) (fun h9 => absurd h9 (by decide)) (fun _ => ?_)
      exact vv_vret F zd_MO_drop_28 ⟨_, mm, ck, f1, f2, Or.inl ⟨by omega, rfl, rfl, rfl, rfl, rfl⟩, rfl, rfl⟩

theorem opp160 {u : Int} (h : 0 ≤ u ∧ u < 160) : ((opp u.toNat : Nat) : Int) < 160 := by have := opp_lt (p := u.toNat) (n := 80) (by omega); omega

set_option maxHeartbeats 4000000 in
set_option maxRecDepth 100000 in
theorem cn_MO_isNever (l : Launch) (G : vv_G) (mo : Nat) (th : Int) (n : Int) (ac : Int) (tha : Nat) (gk : Bool) (rea : Nat) (poa : Nat) (mn : Int) (cha : Nat) (goa : Nat) (lea : Nat) (nv : Int) (mm : Int) (fia : Nat) (sea : Nat) (ck : Bool) (sta : Nat) (lda : Nat) (vla : Nat) (gd : Bool) (fl : Int) (dia : Nat) (qua : Nat) (Ld : Nat → Nat → Bool) (u : Int) (hu : 0 ≤ u ∧ u < 160) :
    vv_D l zy_MO_isNever zc_MO_isNever 2 (some .boolean) { frames := 1, cells := 0, slots := 0, locals := 21 } G [.ref mo, .int (iI u)] [ceO 7 mo [.int (iI th), .int (iI n), .int (iI ac), .ref tha, .int (iI (bZ gk)), .ref rea, .ref poa, .int (iI mn), .ref cha, .ref goa, .ref lea, .int (iI nv), .int (iI mm), .ref fia, .ref sea, .int (iI (bZ ck)), .ref sta, .ref lda, .ref vla, .int (iI (bZ gd)), .int (iI fl), .ref dia, .ref qua], ceZ G lda 25600 (fz Ld)] (some (.int (iI (bZ (Ld u.toNat (opp u.toNat)))))) [ceO 7 mo [.int (iI th), .int (iI n), .int (iI ac), .ref tha, .int (iI (bZ gk)), .ref rea, .ref poa, .int (iI mn), .ref cha, .ref goa, .ref lea, .int (iI nv), .int (iI mm), .ref fia, .ref sea, .int (iI (bZ ck)), .ref sta, .ref lda, .ref vla, .int (iI (bZ gd)), .int (iI fl), .ref dia, .ref qua], ceZ G lda 25600 (fz Ld)] := by
  refine vv_met (by decide +kernel) (Nat.le_of_ble_eq_true rfl) rfl ?_
  intro p e s m args below meth c A F
  have h160 := opp160 hu
  refine vv_aload_n F zd_MO_isNever_0 rfl 0 rfl ?_
  refine vv_get F zd_MO_isNever_1 zf_MO 0 rfl rfl 17 (by decide) zw_773 rfl ?_
  refine vv_iload_n F zd_MO_isNever_4 rfl 1 rfl ?_
  refine vv_iload_n F zd_MO_isNever_5 rfl 1 rfl ?_
  refine vv_callS (As := [.int (iI u)]) (rest := [.int (iI u), .ref lda]) (wr := [ceO 7 mo [.int (iI th), .int (iI n), .int (iI ac), .ref tha, .int (iI (bZ gk)), .ref rea, .ref poa, .int (iI mn), .ref cha, .ref goa, .ref lea, .int (iI nv), .int (iI mm), .ref fia, .ref sea, .int (iI (bZ ck)), .ref sta, .ref lda, .ref vla, .int (iI (bZ gd)), .int (iI fl), .ref dia, .ref qua], ceZ G lda 25600 (fz Ld)]) F (cn_MO_opposite l G u ⟨by omega, by omega⟩) zm_MO_opposite zw_947 zw_946 zd_MO_isNever_6 ⟨by decide, by decide⟩ ⟨by decide, by decide⟩ [] [0, 1] rfl rfl ⟨rfl, rfl, by decide⟩ rfl rfl (Nat.le_of_ble_eq_true rfl) (vv_then (ws' := [ceO 7 mo [.int (iI th), .int (iI n), .int (iI ac), .ref tha, .int (iI (bZ gk)), .ref rea, .ref poa, .int (iI mn), .ref cha, .ref goa, .ref lea, .int (iI nv), .int (iI mm), .ref fia, .ref sea, .int (iI (bZ ck)), .ref sta, .ref lda, .ref vla, .int (iI (bZ gd)), .int (iI fl), .ref dia, .ref qua], ceZ G lda 25600 (fz Ld)]) (st' := [.int (iI (opp u.toNat : Int)), .int (iI u), .ref lda]) [0, 1] rfl rfl rfl ?_)
  refine vv_callS (As := [.int (iI u), .int (iI (opp u.toNat : Int))]) (rest := [.ref lda]) (wr := [ceO 7 mo [.int (iI th), .int (iI n), .int (iI ac), .ref tha, .int (iI (bZ gk)), .ref rea, .ref poa, .int (iI mn), .ref cha, .ref goa, .ref lea, .int (iI nv), .int (iI mm), .ref fia, .ref sea, .int (iI (bZ ck)), .ref sta, .ref lda, .ref vla, .int (iI (bZ gd)), .int (iI fl), .ref dia, .ref qua], ceZ G lda 25600 (fz Ld)]) F (cn_MO_cell l G u (opp u.toNat : Int)) zm_MO_cell zw_844 zw_843 zd_MO_isNever_9 ⟨by decide, by decide⟩ ⟨by decide, by decide⟩ [] [0, 1] rfl rfl ⟨rfl, rfl, by decide⟩ rfl rfl (Nat.le_of_ble_eq_true rfl) (vv_then (ws' := [ceO 7 mo [.int (iI th), .int (iI n), .int (iI ac), .ref tha, .int (iI (bZ gk)), .ref rea, .ref poa, .int (iI mn), .ref cha, .ref goa, .ref lea, .int (iI nv), .int (iI mm), .ref fia, .ref sea, .int (iI (bZ ck)), .ref sta, .ref lda, .ref vla, .int (iI (bZ gd)), .int (iI fl), .ref dia, .ref qua], ceZ G lda 25600 (fz Ld)]) (st' := [.int (iI (160 * u + (opp u.toNat : Int))), .ref lda]) [0, 1] rfl rfl rfl ?_)
  refine vv_zald F zd_MO_isNever_12 1 rfl ⟨by omega, by omega⟩ (by decide) ?_
  refine vv_ti (congrArg bZ (fzI (B := Ld) (u := u) (v := (opp u.toNat : Int)) (by omega) ⟨by omega, by omega⟩)) ?_
  exact vv_zret F zd_MO_isNever_13 ⟨rfl, rfl⟩

def mfo (Ld : Nat → Nat → Bool) (a b : Nat) : Bool := Ld a b || (Ld a (opp a) || Ld (opp b) b)

set_option maxHeartbeats 4000000 in
set_option maxRecDepth 100000 in
theorem cn_MO_follows (l : Launch) (G : vv_G) (mo : Nat) (th : Int) (n : Int) (ac : Int) (tha : Nat) (gk : Bool) (rea : Nat) (poa : Nat) (mn : Int) (cha : Nat) (goa : Nat) (lea : Nat) (nv : Int) (mm : Int) (fia : Nat) (sea : Nat) (ck : Bool) (sta : Nat) (lda : Nat) (vla : Nat) (gd : Bool) (fl : Int) (dia : Nat) (qua : Nat) (Ld : Nat → Nat → Bool) (u : Int) (v : Int) (hu : 0 ≤ u ∧ u < 160) (hw : 0 ≤ v ∧ v < 160) :
    vv_D l zy_MO_follows zc_MO_follows 3 (some .boolean) { frames := 2, cells := 0, slots := 0, locals := 42 } G [.ref mo, .int (iI u), .int (iI v)] [ceO 7 mo [.int (iI th), .int (iI n), .int (iI ac), .ref tha, .int (iI (bZ gk)), .ref rea, .ref poa, .int (iI mn), .ref cha, .ref goa, .ref lea, .int (iI nv), .int (iI mm), .ref fia, .ref sea, .int (iI (bZ ck)), .ref sta, .ref lda, .ref vla, .int (iI (bZ gd)), .int (iI fl), .ref dia, .ref qua], ceZ G lda 25600 (fz Ld)] (some (.int (iI (bZ (mfo Ld u.toNat v.toNat))))) [ceO 7 mo [.int (iI th), .int (iI n), .int (iI ac), .ref tha, .int (iI (bZ gk)), .ref rea, .ref poa, .int (iI mn), .ref cha, .ref goa, .ref lea, .int (iI nv), .int (iI mm), .ref fia, .ref sea, .int (iI (bZ ck)), .ref sta, .ref lda, .ref vla, .int (iI (bZ gd)), .int (iI fl), .ref dia, .ref qua], ceZ G lda 25600 (fz Ld)] := by
  refine vv_met (by decide +kernel) (Nat.le_of_ble_eq_true rfl) rfl ?_
  intro p e s m args below meth c A F
  have h160 := opp160 hw
  refine vv_aload_n F zd_MO_follows_0 rfl 0 rfl ?_
  refine vv_get F zd_MO_follows_1 zf_MO 0 rfl rfl 17 (by decide) zw_773 rfl ?_
  refine vv_iload_n F zd_MO_follows_4 rfl 1 rfl ?_
  refine vv_iload_n F zd_MO_follows_5 rfl 2 rfl ?_
  refine vv_callS (As := [.int (iI u), .int (iI v)]) (rest := [.ref lda]) (wr := [ceO 7 mo [.int (iI th), .int (iI n), .int (iI ac), .ref tha, .int (iI (bZ gk)), .ref rea, .ref poa, .int (iI mn), .ref cha, .ref goa, .ref lea, .int (iI nv), .int (iI mm), .ref fia, .ref sea, .int (iI (bZ ck)), .ref sta, .ref lda, .ref vla, .int (iI (bZ gd)), .int (iI fl), .ref dia, .ref qua], ceZ G lda 25600 (fz Ld)]) F (cn_MO_cell l G u v) zm_MO_cell zw_844 zw_843 zd_MO_follows_6 ⟨by decide, by decide⟩ ⟨by decide, by decide⟩ [] [0, 1] rfl rfl ⟨rfl, rfl, by decide⟩ rfl rfl (Nat.le_of_ble_eq_true rfl) (vv_then (ws' := [ceO 7 mo [.int (iI th), .int (iI n), .int (iI ac), .ref tha, .int (iI (bZ gk)), .ref rea, .ref poa, .int (iI mn), .ref cha, .ref goa, .ref lea, .int (iI nv), .int (iI mm), .ref fia, .ref sea, .int (iI (bZ ck)), .ref sta, .ref lda, .ref vla, .int (iI (bZ gd)), .int (iI fl), .ref dia, .ref qua], ceZ G lda 25600 (fz Ld)]) (st' := [.int (iI (160 * u + v)), .ref lda]) [0, 1] rfl rfl rfl ?_)
  refine vv_zald F zd_MO_follows_9 1 rfl ⟨by omega, by omega⟩ (by decide) ?_
  refine vv_ti (congrArg bZ (fzI (B := Ld) (u := u) (v := v) (by omega) ⟨by omega, by omega⟩)) ?_
  refine vv_if_ne (tgt := 32) F zd_MO_follows_10 rfl (bZ_rg _) (fun h1 => ?_) (fun h1 => ?_)
  · have h1 : (Ld u.toNat v.toNat) = true := by cases hb9 : (Ld u.toNat v.toNat) with | true => rfl | false => exact absurd ((bZ_0 _).mpr hb9) h1
    refine vv_iconst F zd_MO_follows_32 ?_
    refine vv_goto (tgt := 37) F zd_MO_follows_33 rfl ?_
    exact vv_zret (v := true) F zd_MO_follows_37 ⟨by unfold mfo; rw [h1]; rfl, rfl⟩
  · have h1 : (Ld u.toNat v.toNat) = false := (bZ_0 _).mp h1
    refine vv_aload_n F zd_MO_follows_13 rfl 0 rfl ?_
    refine vv_iload_n F zd_MO_follows_14 rfl 1 rfl ?_
    refine vv_callV (q0 := 0) (As := [.int (iI u)]) (rest := []) (wr := []) F (cn_MO_isNever l G mo th n ac tha gk rea poa mn cha goa lea nv mm fia sea ck sta lda vla gd fl dia qua Ld u hu) zm_MO_isNever ⟨zw_967, zs_MO_isNever⟩ zw_965 zd_MO_follows_15 ⟨by decide, by decide⟩ ⟨by decide, by decide⟩ [0, 1] [] rfl rfl ⟨rfl, rfl, by decide⟩ rfl rfl rfl rfl (Nat.le_of_ble_eq_true rfl) (vv_then (ws' := [ceO 7 mo [.int (iI th), .int (iI n), .int (iI ac), .ref tha, .int (iI (bZ gk)), .ref rea, .ref poa, .int (iI mn), .ref cha, .ref goa, .ref lea, .int (iI nv), .int (iI mm), .ref fia, .ref sea, .int (iI (bZ ck)), .ref sta, .ref lda, .ref vla, .int (iI (bZ gd)), .int (iI fl), .ref dia, .ref qua], ceZ G lda 25600 (fz Ld)]) (st' := [.int (iI (bZ (Ld u.toNat (opp u.toNat))))]) [0, 1] rfl rfl rfl ?_)
    refine vv_if_ne (tgt := 32) F zd_MO_follows_18 rfl (bZ_rg _) (fun h2 => ?_) (fun h2 => ?_)
    · have h2 : (Ld u.toNat (opp u.toNat)) = true := by cases hb9 : (Ld u.toNat (opp u.toNat)) with | true => rfl | false => exact absurd ((bZ_0 _).mpr hb9) h2
      refine vv_iconst F zd_MO_follows_32 ?_
      refine vv_goto (tgt := 37) F zd_MO_follows_33 rfl ?_
      exact vv_zret (v := true) F zd_MO_follows_37 ⟨by unfold mfo; rw [h1, h2]; rfl, rfl⟩
    · have h2 : (Ld u.toNat (opp u.toNat)) = false := (bZ_0 _).mp h2
      refine vv_aload_n F zd_MO_follows_21 rfl 0 rfl ?_
      refine vv_iload_n F zd_MO_follows_22 rfl 2 rfl ?_
      refine vv_callS (As := [.int (iI v)]) (rest := [.ref mo]) (wr := [ceO 7 mo [.int (iI th), .int (iI n), .int (iI ac), .ref tha, .int (iI (bZ gk)), .ref rea, .ref poa, .int (iI mn), .ref cha, .ref goa, .ref lea, .int (iI nv), .int (iI mm), .ref fia, .ref sea, .int (iI (bZ ck)), .ref sta, .ref lda, .ref vla, .int (iI (bZ gd)), .int (iI fl), .ref dia, .ref qua], ceZ G lda 25600 (fz Ld)]) F (cn_MO_opposite l G v ⟨by omega, by omega⟩) zm_MO_opposite zw_947 zw_946 zd_MO_follows_23 ⟨by decide, by decide⟩ ⟨by decide, by decide⟩ [] [0, 1] rfl rfl ⟨rfl, rfl, by decide⟩ rfl rfl (Nat.le_of_ble_eq_true rfl) (vv_then (ws' := [ceO 7 mo [.int (iI th), .int (iI n), .int (iI ac), .ref tha, .int (iI (bZ gk)), .ref rea, .ref poa, .int (iI mn), .ref cha, .ref goa, .ref lea, .int (iI nv), .int (iI mm), .ref fia, .ref sea, .int (iI (bZ ck)), .ref sta, .ref lda, .ref vla, .int (iI (bZ gd)), .int (iI fl), .ref dia, .ref qua], ceZ G lda 25600 (fz Ld)]) (st' := [.int (iI (opp v.toNat : Int)), .ref mo]) [0, 1] rfl rfl rfl ?_)
      refine vv_callV (q0 := 0) (As := [.int (iI (opp v.toNat : Int))]) (rest := []) (wr := []) F (cn_MO_isNever l G mo th n ac tha gk rea poa mn cha goa lea nv mm fia sea ck sta lda vla gd fl dia qua Ld (opp v.toNat : Int) ⟨by omega, by omega⟩) zm_MO_isNever ⟨zw_967, zs_MO_isNever⟩ zw_965 zd_MO_follows_26 ⟨by decide, by decide⟩ ⟨by decide, by decide⟩ [0, 1] [] rfl rfl ⟨rfl, rfl, by decide⟩ rfl rfl rfl rfl (Nat.le_of_ble_eq_true rfl) (vv_then (ws' := [ceO 7 mo [.int (iI th), .int (iI n), .int (iI ac), .ref tha, .int (iI (bZ gk)), .ref rea, .ref poa, .int (iI mn), .ref cha, .ref goa, .ref lea, .int (iI nv), .int (iI mm), .ref fia, .ref sea, .int (iI (bZ ck)), .ref sta, .ref lda, .ref vla, .int (iI (bZ gd)), .int (iI fl), .ref dia, .ref qua], ceZ G lda 25600 (fz Ld)]) (st' := [.int (iI (bZ (Ld (opp v.toNat : Int).toNat (opp (opp v.toNat : Int).toNat))))]) [0, 1] rfl rfl rfl ?_)
      refine vv_ti (show bZ (Ld (opp v.toNat : Int).toNat (opp (opp v.toNat : Int).toNat)) = bZ (Ld (opp v.toNat) v.toNat) by rw [Int.toNat_natCast, opp_opp]) ?_
      refine vv_if_eq (tgt := 36) F zd_MO_follows_29 rfl (bZ_rg _) (fun h3 => ?_) (fun h3 => ?_)
      · have h3 : (Ld (opp v.toNat) v.toNat) = false := (bZ_0 _).mp h3
        refine vv_iconst F zd_MO_follows_36 ?_
        exact vv_zret (v := false) F zd_MO_follows_37 ⟨by unfold mfo; rw [h1, h2, h3]; rfl, rfl⟩
      · have h3 : (Ld (opp v.toNat) v.toNat) = true := by cases hb9 : (Ld (opp v.toNat) v.toNat) with | true => rfl | false => exact absurd ((bZ_0 _).mpr hb9) h3
        refine vv_iconst F zd_MO_follows_32 ?_
        refine vv_goto (tgt := 37) F zd_MO_follows_33 rfl ?_
        exact vv_zret (v := true) F zd_MO_follows_37 ⟨by unfold mfo; rw [h1, h2, h3]; rfl, rfl⟩

set_option maxHeartbeats 4000000 in
set_option maxRecDepth 100000 in
theorem lp_MO_as1 {p : Program} {l : Launch} {e : Env} {s : State} {m : MethodId} {args : Array Value} {below : List Frame} {meth : Method} {c : Code} {A : Nat → Prop} {Q : State → Prop} {G : vv_G} (F : vv_F p s m args meth c zc_MO_addStep "ClauseGraphModel" "addStep" none G A 5) (mo : Nat) (th : Int) (n : Int) (ac : Int) (tha : Nat) (gk : Bool) (rea : Nat) (poa : Nat) (mn : Int) (cha : Nat) (goa : Nat) (lea : Nat) (nv : Int) (mm : Int) (fia : Nat) (sea : Nat) (ck : Bool) (sta : Nat) (lda : Nat) (vla : Nat) (gd : Bool) (fl : Int) (dia : Nat) (qua : Nat) (S : Nat → Nat → Bool) (T : Nat → Nat → Bool) (u : Int) (v : Int) (a : Int) (hv : 1 ≤ nv ∧ nv ≤ 80) (hu : 0 ≤ u ∧ u < 2 * nv) (hw : 0 ≤ v ∧ v < 2 * nv) (ha : 0 ≤ a ∧ a < 2 * nv)
    (k : ∀ (W : Nat → Nat → Bool), (0 ≤ (2 * nv) ∧ W = jZ T a.toNat v.toNat (2 * nv).toNat) → vv_V p l e { frames := 1, cells := 0, slots := 0, locals := 21 } s m args below meth c G A 5 Q 114 [(0, .ref mo), (1, .int (iI u)), (2, .int (iI v)), (3, .int (iI a)), (4, .int (iI (2 * nv)))] [] [ceO 7 mo [.int (iI th), .int (iI n), .int (iI ac), .ref tha, .int (iI (bZ gk)), .ref rea, .ref poa, .int (iI mn), .ref cha, .ref goa, .ref lea, .int (iI nv), .int (iI mm), .ref fia, .ref sea, .int (iI (bZ ck)), .ref sta, .ref lda, .ref vla, .int (iI (bZ gd)), .int (iI fl), .ref dia, .ref qua], ceZ G sta 25600 (fz S), ceZ G lda 25600 (fz W)] 0 0)  :
    ∀ (d : Nat) (b : Int) (W : Nat → Nat → Bool), b + (d : Int) = (2 * nv) → (0 ≤ b ∧ W = jZ T a.toNat v.toNat b.toNat) → vv_V p l e { frames := 1, cells := 0, slots := 0, locals := 21 } s m args below meth c G A 5 Q 53 [(0, .ref mo), (1, .int (iI u)), (2, .int (iI v)), (3, .int (iI a)), (4, .int (iI b))] [] [ceO 7 mo [.int (iI th), .int (iI n), .int (iI ac), .ref tha, .int (iI (bZ gk)), .ref rea, .ref poa, .int (iI mn), .ref cha, .ref goa, .ref lea, .int (iI nv), .int (iI mm), .ref fia, .ref sea, .int (iI (bZ ck)), .ref sta, .ref lda, .ref vla, .int (iI (bZ gd)), .int (iI fl), .ref dia, .ref qua], ceZ G sta 25600 (fz S), ceZ G lda 25600 (fz W)] 0 0 := by
  intro d
  induction d with
  | zero =>
    intro b W hd hI
    have hz : b = (2 * nv) := by omega
    subst hz
    refine vv_iload F zd_MO_addStep_53 4 rfl ?_
    refine vv_iconst F zd_MO_addStep_55 ?_
    refine vv_aload_n F zd_MO_addStep_56 rfl 0 rfl ?_
    refine vv_get F zd_MO_addStep_57 zf_MO 0 rfl rfl 11 (by decide) zw_767 rfl ?_
    refine vv_imul F zd_MO_addStep_60 ?_
    refine vv_icmp_ge (tgt := 114) F zd_MO_addStep_61 rfl (by first | exact ⟨by omega, by omega⟩) (by first | exact ⟨by omega, by omega⟩) (fun _ => ?_) (fun h9 => absurd h9 (by omega))
    exact k W hI
  | succ d ih =>
    intro b W hd hI
    refine vv_iload F zd_MO_addStep_53 4 rfl ?_
    refine vv_iconst F zd_MO_addStep_55 ?_
    refine vv_aload_n F zd_MO_addStep_56 rfl 0 rfl ?_
    refine vv_get F zd_MO_addStep_57 zf_MO 0 rfl rfl 11 (by decide) zw_767 rfl ?_
    refine vv_imul F zd_MO_addStep_60 ?_
    refine vv_icmp_ge (tgt := 114) F zd_MO_addStep_61 rfl (by first | exact ⟨by omega, by omega⟩) (by first | exact ⟨by omega, by omega⟩) (fun h9 => absurd h9 (by omega)) (fun _ => ?_)
    refine vv_aload_n F zd_MO_addStep_64 rfl 0 rfl ?_
    refine vv_get F zd_MO_addStep_65 zf_MO 0 rfl rfl 17 (by decide) zw_773 rfl ?_
    refine vv_iload_n F zd_MO_addStep_68 rfl 3 rfl ?_
    refine vv_iload F zd_MO_addStep_69 4 rfl ?_
    refine vv_callS (As := [.int (iI a), .int (iI b)]) (rest := [.ref lda]) (wr := [ceO 7 mo [.int (iI th), .int (iI n), .int (iI ac), .ref tha, .int (iI (bZ gk)), .ref rea, .ref poa, .int (iI mn), .ref cha, .ref goa, .ref lea, .int (iI nv), .int (iI mm), .ref fia, .ref sea, .int (iI (bZ ck)), .ref sta, .ref lda, .ref vla, .int (iI (bZ gd)), .int (iI fl), .ref dia, .ref qua], ceZ G sta 25600 (fz S), ceZ G lda 25600 (fz W)]) F (cn_MO_cell l G a b) zm_MO_cell zw_844 zw_843 zd_MO_addStep_71 ⟨by decide, by decide⟩ ⟨by decide, by decide⟩ [] [0, 1, 2] rfl rfl ⟨rfl, rfl, by decide⟩ rfl rfl (Nat.le_of_ble_eq_true rfl) (vv_then (ws' := [ceO 7 mo [.int (iI th), .int (iI n), .int (iI ac), .ref tha, .int (iI (bZ gk)), .ref rea, .ref poa, .int (iI mn), .ref cha, .ref goa, .ref lea, .int (iI nv), .int (iI mm), .ref fia, .ref sea, .int (iI (bZ ck)), .ref sta, .ref lda, .ref vla, .int (iI (bZ gd)), .int (iI fl), .ref dia, .ref qua], ceZ G sta 25600 (fz S), ceZ G lda 25600 (fz W)]) (st' := [.int (iI (160 * a + b)), .ref lda]) [0, 1, 2] rfl rfl rfl ?_)
    refine vv_aload_n F zd_MO_addStep_74 rfl 0 rfl ?_
    refine vv_get F zd_MO_addStep_75 zf_MO 0 rfl rfl 17 (by decide) zw_773 rfl ?_
    refine vv_iload_n F zd_MO_addStep_78 rfl 3 rfl ?_
    refine vv_iload F zd_MO_addStep_79 4 rfl ?_
    refine vv_callS (As := [.int (iI a), .int (iI b)]) (rest := [.ref lda, .int (iI (160 * a + b)), .ref lda]) (wr := [ceO 7 mo [.int (iI th), .int (iI n), .int (iI ac), .ref tha, .int (iI (bZ gk)), .ref rea, .ref poa, .int (iI mn), .ref cha, .ref goa, .ref lea, .int (iI nv), .int (iI mm), .ref fia, .ref sea, .int (iI (bZ ck)), .ref sta, .ref lda, .ref vla, .int (iI (bZ gd)), .int (iI fl), .ref dia, .ref qua], ceZ G sta 25600 (fz S), ceZ G lda 25600 (fz W)]) F (cn_MO_cell l G a b) zm_MO_cell zw_844 zw_843 zd_MO_addStep_81 ⟨by decide, by decide⟩ ⟨by decide, by decide⟩ [] [0, 1, 2] rfl rfl ⟨rfl, rfl, by decide⟩ rfl rfl (Nat.le_of_ble_eq_true rfl) (vv_then (ws' := [ceO 7 mo [.int (iI th), .int (iI n), .int (iI ac), .ref tha, .int (iI (bZ gk)), .ref rea, .ref poa, .int (iI mn), .ref cha, .ref goa, .ref lea, .int (iI nv), .int (iI mm), .ref fia, .ref sea, .int (iI (bZ ck)), .ref sta, .ref lda, .ref vla, .int (iI (bZ gd)), .int (iI fl), .ref dia, .ref qua], ceZ G sta 25600 (fz S), ceZ G lda 25600 (fz W)]) (st' := [.int (iI (160 * a + b)), .ref lda, .int (iI (160 * a + b)), .ref lda]) [0, 1, 2] rfl rfl rfl ?_)
    refine vv_zald F zd_MO_addStep_84 2 rfl ⟨by omega, by omega⟩ (by decide) ?_
    refine vv_ti (congrArg bZ (fzI (B := W) (u := a) (v := b) (by omega) ⟨by omega, by omega⟩)) ?_
    refine vv_if_ne (tgt := 102) F zd_MO_addStep_85 rfl (bZ_rg _) (fun h1 => ?_) (fun h1 => ?_)
    · have h1 : (W a.toNat b.toNat) = true := by cases hb9 : (W a.toNat b.toNat) with | true => rfl | false => exact absurd ((bZ_0 _).mpr hb9) h1
      refine vv_iconst F zd_MO_addStep_102 ?_
      refine vv_goto (tgt := 107) F zd_MO_addStep_103 rfl ?_
      refine vv_ti (show (1 : Int) = bZ true from rfl) ?_
      refine vv_zast (x := true) (ws' := [ceO 7 mo [.int (iI th), .int (iI n), .int (iI ac), .ref tha, .int (iI (bZ gk)), .ref rea, .ref poa, .int (iI mn), .ref cha, .ref goa, .ref lea, .int (iI nv), .int (iI mm), .ref fia, .ref sea, .int (iI (bZ ck)), .ref sta, .ref lda, .ref vla, .int (iI (bZ gd)), .int (iI fl), .ref dia, .ref qua], ceZ G sta 25600 (fz S), ceZ G lda 25600 (fz (bP W a.toNat b.toNat true))]) F zd_MO_addStep_107 2 rfl ⟨by omega, by omega⟩ (by decide) (by rw [fzU (by omega) ⟨by omega, by omega⟩]; first | done | rfl) ?_
      refine vv_iinc (j := 4) (lv' := [(0, .ref mo), (1, .int (iI u)), (2, .int (iI v)), (3, .int (iI a)), (4, .int (iI (b + 1)))]) F zd_MO_addStep_108 rfl (by decide) [1, 2, 3, 4, 0] rfl ?_
      refine vv_goto (tgt := 53) F zd_MO_addStep_111 rfl ?_
      exact ih (b + 1) (bP W a.toNat b.toNat true) (by omega) (⟨by omega, by rw [show (b + 1).toNat = b.toNat + 1 by omega, hI.2]; exact jZ_s (by have h9 := h1; rw [hI.2, jZ_at] at h9; rw [h9]; rfl)⟩)
    · have h1 : (W a.toNat b.toNat) = false := (bZ_0 _).mp h1
      refine vv_aload_n F zd_MO_addStep_88 rfl 0 rfl ?_
      refine vv_get F zd_MO_addStep_89 zf_MO 0 rfl rfl 17 (by decide) zw_773 rfl ?_
      refine vv_iload_n F zd_MO_addStep_92 rfl 2 rfl ?_
      refine vv_iload F zd_MO_addStep_93 4 rfl ?_
      refine vv_callS (As := [.int (iI v), .int (iI b)]) (rest := [.ref lda, .int (iI (160 * a + b)), .ref lda]) (wr := [ceO 7 mo [.int (iI th), .int (iI n), .int (iI ac), .ref tha, .int (iI (bZ gk)), .ref rea, .ref poa, .int (iI mn), .ref cha, .ref goa, .ref lea, .int (iI nv), .int (iI mm), .ref fia, .ref sea, .int (iI (bZ ck)), .ref sta, .ref lda, .ref vla, .int (iI (bZ gd)), .int (iI fl), .ref dia, .ref qua], ceZ G sta 25600 (fz S), ceZ G lda 25600 (fz W)]) F (cn_MO_cell l G v b) zm_MO_cell zw_844 zw_843 zd_MO_addStep_95 ⟨by decide, by decide⟩ ⟨by decide, by decide⟩ [] [0, 1, 2] rfl rfl ⟨rfl, rfl, by decide⟩ rfl rfl (Nat.le_of_ble_eq_true rfl) (vv_then (ws' := [ceO 7 mo [.int (iI th), .int (iI n), .int (iI ac), .ref tha, .int (iI (bZ gk)), .ref rea, .ref poa, .int (iI mn), .ref cha, .ref goa, .ref lea, .int (iI nv), .int (iI mm), .ref fia, .ref sea, .int (iI (bZ ck)), .ref sta, .ref lda, .ref vla, .int (iI (bZ gd)), .int (iI fl), .ref dia, .ref qua], ceZ G sta 25600 (fz S), ceZ G lda 25600 (fz W)]) (st' := [.int (iI (160 * v + b)), .ref lda, .int (iI (160 * a + b)), .ref lda]) [0, 1, 2] rfl rfl rfl ?_)
      refine vv_zald F zd_MO_addStep_98 2 rfl ⟨by omega, by omega⟩ (by decide) ?_
      refine vv_ti (congrArg bZ (fzI (B := W) (u := v) (v := b) (by omega) ⟨by omega, by omega⟩)) ?_
      refine vv_if_eq (tgt := 106) F zd_MO_addStep_99 rfl (bZ_rg _) (fun h2 => ?_) (fun h2 => ?_)
      · have h2 : (W v.toNat b.toNat) = false := (bZ_0 _).mp h2
        refine vv_iconst F zd_MO_addStep_106 ?_
        refine vv_ti (show (0 : Int) = bZ false from rfl) ?_
        refine vv_zast (x := false) (ws' := [ceO 7 mo [.int (iI th), .int (iI n), .int (iI ac), .ref tha, .int (iI (bZ gk)), .ref rea, .ref poa, .int (iI mn), .ref cha, .ref goa, .ref lea, .int (iI nv), .int (iI mm), .ref fia, .ref sea, .int (iI (bZ ck)), .ref sta, .ref lda, .ref vla, .int (iI (bZ gd)), .int (iI fl), .ref dia, .ref qua], ceZ G sta 25600 (fz S), ceZ G lda 25600 (fz (bP W a.toNat b.toNat false))]) F zd_MO_addStep_107 2 rfl ⟨by omega, by omega⟩ (by decide) (by rw [fzU (by omega) ⟨by omega, by omega⟩]; first | done | rfl) ?_
        refine vv_iinc (j := 4) (lv' := [(0, .ref mo), (1, .int (iI u)), (2, .int (iI v)), (3, .int (iI a)), (4, .int (iI (b + 1)))]) F zd_MO_addStep_108 rfl (by decide) [1, 2, 3, 4, 0] rfl ?_
        refine vv_goto (tgt := 53) F zd_MO_addStep_111 rfl ?_
        exact ih (b + 1) (bP W a.toNat b.toNat false) (by omega) (⟨by omega, by rw [show (b + 1).toNat = b.toNat + 1 by omega, hI.2]; exact jZ_s (by have h9 := h1; rw [hI.2, jZ_at] at h9; have h8 := h2; rw [hI.2, jZ_k] at h8; rw [h9, h8]; rfl)⟩)
      · have h2 : (W v.toNat b.toNat) = true := by cases hb9 : (W v.toNat b.toNat) with | true => rfl | false => exact absurd ((bZ_0 _).mpr hb9) h2
        refine vv_iconst F zd_MO_addStep_102 ?_
        refine vv_goto (tgt := 107) F zd_MO_addStep_103 rfl ?_
        refine vv_ti (show (1 : Int) = bZ true from rfl) ?_
        refine vv_zast (x := true) (ws' := [ceO 7 mo [.int (iI th), .int (iI n), .int (iI ac), .ref tha, .int (iI (bZ gk)), .ref rea, .ref poa, .int (iI mn), .ref cha, .ref goa, .ref lea, .int (iI nv), .int (iI mm), .ref fia, .ref sea, .int (iI (bZ ck)), .ref sta, .ref lda, .ref vla, .int (iI (bZ gd)), .int (iI fl), .ref dia, .ref qua], ceZ G sta 25600 (fz S), ceZ G lda 25600 (fz (bP W a.toNat b.toNat true))]) F zd_MO_addStep_107 2 rfl ⟨by omega, by omega⟩ (by decide) (by rw [fzU (by omega) ⟨by omega, by omega⟩]; first | done | rfl) ?_
        refine vv_iinc (j := 4) (lv' := [(0, .ref mo), (1, .int (iI u)), (2, .int (iI v)), (3, .int (iI a)), (4, .int (iI (b + 1)))]) F zd_MO_addStep_108 rfl (by decide) [1, 2, 3, 4, 0] rfl ?_
        refine vv_goto (tgt := 53) F zd_MO_addStep_111 rfl ?_
        exact ih (b + 1) (bP W a.toNat b.toNat true) (by omega) (⟨by omega, by rw [show (b + 1).toNat = b.toNat + 1 by omega, hI.2]; exact jZ_s (by have h9 := h1; rw [hI.2, jZ_at] at h9; have h8 := h2; rw [hI.2, jZ_k] at h8; rw [h9, h8]; rfl)⟩)

set_option maxHeartbeats 4000000 in
set_option maxRecDepth 100000 in
theorem lp_MO_as2 {p : Program} {l : Launch} {e : Env} {s : State} {m : MethodId} {args : Array Value} {below : List Frame} {meth : Method} {c : Code} {A : Nat → Prop} {Q : State → Prop} {G : vv_G} (F : vv_F p s m args meth c zc_MO_addStep "ClauseGraphModel" "addStep" none G A 5) (mo : Nat) (th : Int) (n : Int) (ac : Int) (tha : Nat) (gk : Bool) (rea : Nat) (poa : Nat) (mn : Int) (cha : Nat) (goa : Nat) (lea : Nat) (nv : Int) (mm : Int) (fia : Nat) (sea : Nat) (ck : Bool) (sta : Nat) (lda : Nat) (vla : Nat) (gd : Bool) (fl : Int) (dia : Nat) (qua : Nat) (S : Nat → Nat → Bool) (T : Nat → Nat → Bool) (u : Int) (v : Int) (hv : 1 ≤ nv ∧ nv ≤ 80) (hu : 0 ≤ u ∧ u < 2 * nv) (hw : 0 ≤ v ∧ v < 2 * nv)
    (k : ∀ (W : Nat → Nat → Bool), (0 ≤ (2 * nv) ∧ W = qZ T (2 * nv).toNat u.toNat v.toNat (2 * nv).toNat) → vv_V p l e { frames := 1, cells := 0, slots := 0, locals := 21 } s m args below meth c G A 5 Q 120 [(0, .ref mo), (1, .int (iI u)), (2, .int (iI v)), (3, .int (iI (2 * nv)))] [] [ceO 7 mo [.int (iI th), .int (iI n), .int (iI ac), .ref tha, .int (iI (bZ gk)), .ref rea, .ref poa, .int (iI mn), .ref cha, .ref goa, .ref lea, .int (iI nv), .int (iI mm), .ref fia, .ref sea, .int (iI (bZ ck)), .ref sta, .ref lda, .ref vla, .int (iI (bZ gd)), .int (iI fl), .ref dia, .ref qua], ceZ G sta 25600 (fz S), ceZ G lda 25600 (fz W)] 0 0)  :
    ∀ (d : Nat) (a : Int) (W : Nat → Nat → Bool), a + (d : Int) = (2 * nv) → (0 ≤ a ∧ W = qZ T (2 * nv).toNat u.toNat v.toNat a.toNat) → vv_V p l e { frames := 1, cells := 0, slots := 0, locals := 21 } s m args below meth c G A 5 Q 27 [(0, .ref mo), (1, .int (iI u)), (2, .int (iI v)), (3, .int (iI a))] [] [ceO 7 mo [.int (iI th), .int (iI n), .int (iI ac), .ref tha, .int (iI (bZ gk)), .ref rea, .ref poa, .int (iI mn), .ref cha, .ref goa, .ref lea, .int (iI nv), .int (iI mm), .ref fia, .ref sea, .int (iI (bZ ck)), .ref sta, .ref lda, .ref vla, .int (iI (bZ gd)), .int (iI fl), .ref dia, .ref qua], ceZ G sta 25600 (fz S), ceZ G lda 25600 (fz W)] 0 0 := by
  intro d
  induction d with
  | zero =>
    intro a W hd hI
    have hz : a = (2 * nv) := by omega
    subst hz
    refine vv_iload_n F zd_MO_addStep_27 rfl 3 rfl ?_
    refine vv_iconst F zd_MO_addStep_28 ?_
    refine vv_aload_n F zd_MO_addStep_29 rfl 0 rfl ?_
    refine vv_get F zd_MO_addStep_30 zf_MO 0 rfl rfl 11 (by decide) zw_767 rfl ?_
    refine vv_imul F zd_MO_addStep_33 ?_
    refine vv_icmp_ge (tgt := 120) F zd_MO_addStep_34 rfl (by first | exact ⟨by omega, by omega⟩) (by first | exact ⟨by omega, by omega⟩) (fun _ => ?_) (fun h9 => absurd h9 (by omega))
    exact k W hI
  | succ d ih =>
    intro a W hd hI
    refine vv_iload_n F zd_MO_addStep_27 rfl 3 rfl ?_
    refine vv_iconst F zd_MO_addStep_28 ?_
    refine vv_aload_n F zd_MO_addStep_29 rfl 0 rfl ?_
    refine vv_get F zd_MO_addStep_30 zf_MO 0 rfl rfl 11 (by decide) zw_767 rfl ?_
    refine vv_imul F zd_MO_addStep_33 ?_
    refine vv_icmp_ge (tgt := 120) F zd_MO_addStep_34 rfl (by first | exact ⟨by omega, by omega⟩) (by first | exact ⟨by omega, by omega⟩) (fun h9 => absurd h9 (by omega)) (fun _ => ?_)
    refine vv_aload_n F zd_MO_addStep_37 rfl 0 rfl ?_
    refine vv_get F zd_MO_addStep_38 zf_MO 0 rfl rfl 17 (by decide) zw_773 rfl ?_
    refine vv_iload_n F zd_MO_addStep_41 rfl 3 rfl ?_
    refine vv_iload_n F zd_MO_addStep_42 rfl 1 rfl ?_
    refine vv_callS (As := [.int (iI a), .int (iI u)]) (rest := [.ref lda]) (wr := [ceO 7 mo [.int (iI th), .int (iI n), .int (iI ac), .ref tha, .int (iI (bZ gk)), .ref rea, .ref poa, .int (iI mn), .ref cha, .ref goa, .ref lea, .int (iI nv), .int (iI mm), .ref fia, .ref sea, .int (iI (bZ ck)), .ref sta, .ref lda, .ref vla, .int (iI (bZ gd)), .int (iI fl), .ref dia, .ref qua], ceZ G sta 25600 (fz S), ceZ G lda 25600 (fz W)]) F (cn_MO_cell l G a u) zm_MO_cell zw_844 zw_843 zd_MO_addStep_43 ⟨by decide, by decide⟩ ⟨by decide, by decide⟩ [] [0, 1, 2] rfl rfl ⟨rfl, rfl, by decide⟩ rfl rfl (Nat.le_of_ble_eq_true rfl) (vv_then (ws' := [ceO 7 mo [.int (iI th), .int (iI n), .int (iI ac), .ref tha, .int (iI (bZ gk)), .ref rea, .ref poa, .int (iI mn), .ref cha, .ref goa, .ref lea, .int (iI nv), .int (iI mm), .ref fia, .ref sea, .int (iI (bZ ck)), .ref sta, .ref lda, .ref vla, .int (iI (bZ gd)), .int (iI fl), .ref dia, .ref qua], ceZ G sta 25600 (fz S), ceZ G lda 25600 (fz W)]) (st' := [.int (iI (160 * a + u)), .ref lda]) [0, 1, 2] rfl rfl rfl ?_)
    refine vv_zald F zd_MO_addStep_46 2 rfl ⟨by omega, by omega⟩ (by decide) ?_
    refine vv_ti (congrArg bZ (fzI (B := W) (u := a) (v := u) (by omega) ⟨by omega, by omega⟩)) ?_
    refine vv_if_eq (tgt := 114) F zd_MO_addStep_47 rfl (bZ_rg _) (fun h1 => ?_) (fun h1 => ?_)
    · have h1 : (W a.toNat u.toNat) = false := (bZ_0 _).mp h1
      refine vv_iinc (j := 3) (lv' := [(0, .ref mo), (1, .int (iI u)), (2, .int (iI v)), (3, .int (iI (a + 1)))]) F zd_MO_addStep_114 rfl (by decide) [1, 2, 3, 0] rfl ?_
      refine vv_goto (tgt := 27) F zd_MO_addStep_117 rfl ?_
      exact ih (a + 1) W (by omega) (⟨by omega, by rw [show (a + 1).toNat = a.toNat + 1 by omega, qZ_no (by have h9 := h1; rw [hI.2, qZ_piv (Nat.le_refl _)] at h9; exact h9)]; exact hI.2⟩)
    · have h1 : (W a.toNat u.toNat) = true := by cases hb9 : (W a.toNat u.toNat) with | true => rfl | false => exact absurd ((bZ_0 _).mpr hb9) h1
      refine vv_iconst F zd_MO_addStep_50 ?_
      refine vv_istore (lv' := [(0, .ref mo), (1, .int (iI u)), (2, .int (iI v)), (3, .int (iI a)), (4, .int (iI 0))]) F zd_MO_addStep_51 (by decide) [1, 2, 3, 4, 0] rfl ?_
      refine lp_MO_as1 F mo th n ac tha gk rea poa mn cha goa lea nv mm fia sea ck sta lda vla gd fl dia qua S W u v a hv hu hw ⟨by omega, by omega⟩ (fun W9 hJ => ?_) (2 * nv).toNat 0 W (by omega) ⟨by omega, (jZ_0 _ _ _).symm⟩
      refine vv_iinc (j := 3) (lv' := [(0, .ref mo), (1, .int (iI u)), (2, .int (iI v)), (3, .int (iI (a + 1))), (4, .int (iI (2 * nv)))]) F zd_MO_addStep_114 rfl (by decide) [1, 2, 3, 0, 4] rfl ?_
      refine vv_goto (tgt := 27) F zd_MO_addStep_117 rfl ?_
      refine vv_locals (lv' := [(0, .ref mo), (1, .int (iI u)), (2, .int (iI v)), (3, .int (iI (a + 1)))]) [0, 1, 2, 3] rfl ?_
      exact ih (a + 1) W9 (by omega) (⟨by omega, by have h9 := h1; rw [hI.2, qZ_piv (Nat.le_refl _)] at h9; rw [hJ.2, hI.2, qZ_yes h9, show (a + 1).toNat = a.toNat + 1 by omega]⟩)

set_option maxHeartbeats 4000000 in
set_option maxRecDepth 100000 in
theorem cn_MO_addStep (l : Launch) (G : vv_G) (mo : Nat) (th : Int) (n : Int) (ac : Int) (tha : Nat) (gk : Bool) (rea : Nat) (poa : Nat) (mn : Int) (cha : Nat) (goa : Nat) (lea : Nat) (nv : Int) (mm : Int) (fia : Nat) (sea : Nat) (ck : Bool) (sta : Nat) (lda : Nat) (vla : Nat) (gd : Bool) (fl : Int) (dia : Nat) (qua : Nat) (S : Nat → Nat → Bool) (T : Nat → Nat → Bool) (u : Int) (v : Int) (hv : 1 ≤ nv ∧ nv ≤ 80) (hu : 0 ≤ u ∧ u < 2 * nv) (hw : 0 ≤ v ∧ v < 2 * nv) (hL : ldR S (2 * nv).toNat T) :
    vv_C l zy_MO_addStep zc_MO_addStep 5 none { frames := 1, cells := 0, slots := 0, locals := 21 } G [.ref mo, .int (iI u), .int (iI v)] [ceO 7 mo [.int (iI th), .int (iI n), .int (iI ac), .ref tha, .int (iI (bZ gk)), .ref rea, .ref poa, .int (iI mn), .ref cha, .ref goa, .ref lea, .int (iI nv), .int (iI mm), .ref fia, .ref sea, .int (iI (bZ ck)), .ref sta, .ref lda, .ref vla, .int (iI (bZ gd)), .int (iI fl), .ref dia, .ref qua], ceZ G sta 25600 (fz S), ceZ G lda 25600 (fz T)] (fun v7 w7 => ∃ (T2 : Nat → Nat → Bool), (ldR (bP S u.toNat v.toNat true) (2 * nv).toNat T2) ∧ v7 = none ∧ w7 = [ceO 7 mo [.int (iI th), .int (iI n), .int (iI ac), .ref tha, .int (iI (bZ gk)), .ref rea, .ref poa, .int (iI mn), .ref cha, .ref goa, .ref lea, .int (iI nv), .int (iI mm), .ref fia, .ref sea, .int (iI (bZ ck)), .ref sta, .ref lda, .ref vla, .int (iI (bZ gd)), .int (iI fl), .ref dia, .ref qua], ceZ G sta 25600 (fz (bP S u.toNat v.toNat true)), ceZ G lda 25600 (fz T2)]) := by
  refine vv_met (by decide +kernel) (Nat.le_of_ble_eq_true rfl) rfl ?_
  intro p e s m args below meth c A F
  refine vv_aload_n F zd_MO_addStep_0 rfl 0 rfl ?_
  refine vv_get F zd_MO_addStep_1 zf_MO 0 rfl rfl 16 (by decide) zw_772 rfl ?_
  refine vv_iload_n F zd_MO_addStep_4 rfl 1 rfl ?_
  refine vv_iload_n F zd_MO_addStep_5 rfl 2 rfl ?_
  refine vv_callS (As := [.int (iI u), .int (iI v)]) (rest := [.ref sta]) (wr := [ceO 7 mo [.int (iI th), .int (iI n), .int (iI ac), .ref tha, .int (iI (bZ gk)), .ref rea, .ref poa, .int (iI mn), .ref cha, .ref goa, .ref lea, .int (iI nv), .int (iI mm), .ref fia, .ref sea, .int (iI (bZ ck)), .ref sta, .ref lda, .ref vla, .int (iI (bZ gd)), .int (iI fl), .ref dia, .ref qua], ceZ G sta 25600 (fz S), ceZ G lda 25600 (fz T)]) F (cn_MO_cell l G u v) zm_MO_cell zw_844 zw_843 zd_MO_addStep_6 ⟨by decide, by decide⟩ ⟨by decide, by decide⟩ [] [0, 1, 2] rfl rfl ⟨rfl, rfl, by decide⟩ rfl rfl (Nat.le_of_ble_eq_true rfl) (vv_then (ws' := [ceO 7 mo [.int (iI th), .int (iI n), .int (iI ac), .ref tha, .int (iI (bZ gk)), .ref rea, .ref poa, .int (iI mn), .ref cha, .ref goa, .ref lea, .int (iI nv), .int (iI mm), .ref fia, .ref sea, .int (iI (bZ ck)), .ref sta, .ref lda, .ref vla, .int (iI (bZ gd)), .int (iI fl), .ref dia, .ref qua], ceZ G sta 25600 (fz S), ceZ G lda 25600 (fz T)]) (st' := [.int (iI (160 * u + v)), .ref sta]) [0, 1, 2] rfl rfl rfl ?_)
  refine vv_iconst F zd_MO_addStep_9 ?_
  refine vv_ti (show (1 : Int) = bZ true from rfl) ?_
  refine vv_zast (x := true) (ws' := [ceO 7 mo [.int (iI th), .int (iI n), .int (iI ac), .ref tha, .int (iI (bZ gk)), .ref rea, .ref poa, .int (iI mn), .ref cha, .ref goa, .ref lea, .int (iI nv), .int (iI mm), .ref fia, .ref sea, .int (iI (bZ ck)), .ref sta, .ref lda, .ref vla, .int (iI (bZ gd)), .int (iI fl), .ref dia, .ref qua], ceZ G sta 25600 (fz (bP S u.toNat v.toNat true)), ceZ G lda 25600 (fz T)]) F zd_MO_addStep_10 1 rfl ⟨by omega, by omega⟩ (by decide) (by rw [fzU (by omega) ⟨by omega, by omega⟩]; first | done | rfl) ?_
  refine vv_aload_n F zd_MO_addStep_11 rfl 0 rfl ?_
  refine vv_get F zd_MO_addStep_12 zf_MO 0 rfl rfl 17 (by decide) zw_773 rfl ?_
  refine vv_iload_n F zd_MO_addStep_15 rfl 1 rfl ?_
  refine vv_iload_n F zd_MO_addStep_16 rfl 2 rfl ?_
  refine vv_callS (As := [.int (iI u), .int (iI v)]) (rest := [.ref lda]) (wr := [ceO 7 mo [.int (iI th), .int (iI n), .int (iI ac), .ref tha, .int (iI (bZ gk)), .ref rea, .ref poa, .int (iI mn), .ref cha, .ref goa, .ref lea, .int (iI nv), .int (iI mm), .ref fia, .ref sea, .int (iI (bZ ck)), .ref sta, .ref lda, .ref vla, .int (iI (bZ gd)), .int (iI fl), .ref dia, .ref qua], ceZ G sta 25600 (fz (bP S u.toNat v.toNat true)), ceZ G lda 25600 (fz T)]) F (cn_MO_cell l G u v) zm_MO_cell zw_844 zw_843 zd_MO_addStep_17 ⟨by decide, by decide⟩ ⟨by decide, by decide⟩ [] [0, 1, 2] rfl rfl ⟨rfl, rfl, by decide⟩ rfl rfl (Nat.le_of_ble_eq_true rfl) (vv_then (ws' := [ceO 7 mo [.int (iI th), .int (iI n), .int (iI ac), .ref tha, .int (iI (bZ gk)), .ref rea, .ref poa, .int (iI mn), .ref cha, .ref goa, .ref lea, .int (iI nv), .int (iI mm), .ref fia, .ref sea, .int (iI (bZ ck)), .ref sta, .ref lda, .ref vla, .int (iI (bZ gd)), .int (iI fl), .ref dia, .ref qua], ceZ G sta 25600 (fz (bP S u.toNat v.toNat true)), ceZ G lda 25600 (fz T)]) (st' := [.int (iI (160 * u + v)), .ref lda]) [0, 1, 2] rfl rfl rfl ?_)
  refine vv_zald F zd_MO_addStep_20 2 rfl ⟨by omega, by omega⟩ (by decide) ?_
  refine vv_ti (congrArg bZ (fzI (B := T) (u := u) (v := v) (by omega) ⟨by omega, by omega⟩)) ?_
  refine vv_if_eq (tgt := 25) F zd_MO_addStep_21 rfl (bZ_rg _) (fun h1 => ?_) (fun h1 => ?_)
  · have h1 : (T u.toNat v.toNat) = false := (bZ_0 _).mp h1
    refine vv_iconst F zd_MO_addStep_25 ?_
    refine vv_istore_n (lv' := [(0, .ref mo), (1, .int (iI u)), (2, .int (iI v)), (3, .int (iI 0))]) F zd_MO_addStep_26 rfl (by decide) [1, 2, 3, 0] rfl ?_
    refine lp_MO_as2 F mo th n ac tha gk rea poa mn cha goa lea nv mm fia sea ck sta lda vla gd fl dia qua (bP S u.toNat v.toNat true) T u v hv hu hw (fun W9 hI => ?_) (2 * nv).toNat 0 T (by omega) ⟨by omega, (qZ_0 _ _ _ _).symm⟩
    exact vv_vret F zd_MO_addStep_120 ⟨W9, by rw [hI.2]; exact ldR_new hL (by omega) (by omega), rfl, rfl⟩
  · have h1 : (T u.toNat v.toNat) = true := by cases hb9 : (T u.toNat v.toNat) with | true => rfl | false => exact absurd ((bZ_0 _).mpr hb9) h1
    exact vv_vret F zd_MO_addStep_24 ⟨T, ldR_old hL (by omega) (by omega) h1, rfl, rfl⟩

set_option maxHeartbeats 4000000 in
set_option maxRecDepth 100000 in
theorem lp_MO_ir {p : Program} {l : Launch} {e : Env} {s : State} {m : MethodId} {args : Array Value} {below : List Frame} {meth : Method} {c : Code} {A : Nat → Prop} {G : vv_G} (F : vv_F p s m args meth c zc_MO_isRound "ClauseGraphModel" "isRound" (some .boolean) G A 2) (mo : Nat) (th : Int) (n : Int) (ac : Int) (tha : Nat) (gk : Bool) (rea : Nat) (poa : Nat) (mn : Int) (cha : Nat) (goa : Nat) (lea : Nat) (nv : Int) (mm : Int) (fia : Nat) (sea : Nat) (ck : Bool) (sta : Nat) (lda : Nat) (vla : Nat) (gd : Bool) (fl : Int) (dia : Nat) (qua : Nat) (Ld : Nat → Nat → Bool) (hv : 1 ≤ nv ∧ nv ≤ 80)
    (k : (0 ≤ nv ∧ ∀ j : Nat, (j : Int) < nv → mrq Ld j = false) → vv_V p l e { frames := 1, cells := 0, slots := 0, locals := 21 } s m args below meth c G A 2 (vv_R below args s { frames := 1, cells := 0, slots := 0, locals := 21 } G A (fun v7 w7 => v7 = some (.int (iI (bZ (decide (cN (mrq Ld) nv.toNat ≠ 0))))) ∧ w7 = [ceO 7 mo [.int (iI th), .int (iI n), .int (iI ac), .ref tha, .int (iI (bZ gk)), .ref rea, .ref poa, .int (iI mn), .ref cha, .ref goa, .ref lea, .int (iI nv), .int (iI mm), .ref fia, .ref sea, .int (iI (bZ ck)), .ref sta, .ref lda, .ref vla, .int (iI (bZ gd)), .int (iI fl), .ref dia, .ref qua], ceZ G lda 25600 (fz Ld)])) 50 [(0, .ref mo), (1, .int (iI (2 * nv)))] [] [ceO 7 mo [.int (iI th), .int (iI n), .int (iI ac), .ref tha, .int (iI (bZ gk)), .ref rea, .ref poa, .int (iI mn), .ref cha, .ref goa, .ref lea, .int (iI nv), .int (iI mm), .ref fia, .ref sea, .int (iI (bZ ck)), .ref sta, .ref lda, .ref vla, .int (iI (bZ gd)), .int (iI fl), .ref dia, .ref qua], ceZ G lda 25600 (fz Ld)] 0 0)  :
    ∀ (d : Nat) (t : Int) , t + (d : Int) = nv → (0 ≤ t ∧ ∀ j : Nat, (j : Int) < t → mrq Ld j = false) → vv_V p l e { frames := 1, cells := 0, slots := 0, locals := 21 } s m args below meth c G A 2 (vv_R below args s { frames := 1, cells := 0, slots := 0, locals := 21 } G A (fun v7 w7 => v7 = some (.int (iI (bZ (decide (cN (mrq Ld) nv.toNat ≠ 0))))) ∧ w7 = [ceO 7 mo [.int (iI th), .int (iI n), .int (iI ac), .ref tha, .int (iI (bZ gk)), .ref rea, .ref poa, .int (iI mn), .ref cha, .ref goa, .ref lea, .int (iI nv), .int (iI mm), .ref fia, .ref sea, .int (iI (bZ ck)), .ref sta, .ref lda, .ref vla, .int (iI (bZ gd)), .int (iI fl), .ref dia, .ref qua], ceZ G lda 25600 (fz Ld)])) 2 [(0, .ref mo), (1, .int (iI (2 * t)))] [] [ceO 7 mo [.int (iI th), .int (iI n), .int (iI ac), .ref tha, .int (iI (bZ gk)), .ref rea, .ref poa, .int (iI mn), .ref cha, .ref goa, .ref lea, .int (iI nv), .int (iI mm), .ref fia, .ref sea, .int (iI (bZ ck)), .ref sta, .ref lda, .ref vla, .int (iI (bZ gd)), .int (iI fl), .ref dia, .ref qua], ceZ G lda 25600 (fz Ld)] 0 0 := by
  intro d
  induction d with
  | zero =>
    intro t  hd hI
    have hz : t = nv := by omega
    subst hz
    refine vv_iload_n F zd_MO_isRound_2 rfl 1 rfl ?_
    refine vv_iconst F zd_MO_isRound_3 ?_
    refine vv_aload_n F zd_MO_isRound_4 rfl 0 rfl ?_
    refine vv_get F zd_MO_isRound_5 zf_MO 0 rfl rfl 11 (by decide) zw_767 rfl ?_
    refine vv_imul F zd_MO_isRound_8 ?_
    refine vv_icmp_ge (tgt := 50) F zd_MO_isRound_9 rfl (by first | exact ⟨by omega, by omega⟩) (by first | exact ⟨by omega, by omega⟩) (fun _ => ?_) (fun h9 => absurd h9 (by omega))
    exact k  hI
  | succ d ih =>
    intro t  hd hI
    refine vv_iload_n F zd_MO_isRound_2 rfl 1 rfl ?_
    refine vv_iconst F zd_MO_isRound_3 ?_
    refine vv_aload_n F zd_MO_isRound_4 rfl 0 rfl ?_
    refine vv_get F zd_MO_isRound_5 zf_MO 0 rfl rfl 11 (by decide) zw_767 rfl ?_
    refine vv_imul F zd_MO_isRound_8 ?_
    refine vv_icmp_ge (tgt := 50) F zd_MO_isRound_9 rfl (by first | exact ⟨by omega, by omega⟩) (by first | exact ⟨by omega, by omega⟩) (fun h9 => absurd h9 (by omega)) (fun _ => ?_)
    refine vv_aload_n F zd_MO_isRound_12 rfl 0 rfl ?_
    refine vv_get F zd_MO_isRound_13 zf_MO 0 rfl rfl 17 (by decide) zw_773 rfl ?_
    refine vv_iload_n F zd_MO_isRound_16 rfl 1 rfl ?_
    refine vv_iload_n F zd_MO_isRound_17 rfl 1 rfl ?_
    refine vv_iconst F zd_MO_isRound_18 ?_
    refine vv_iadd F zd_MO_isRound_19 ?_
    refine vv_callS (As := [.int (iI (2 * t)), .int (iI ((2 * t) + 1))]) (rest := [.ref lda]) (wr := [ceO 7 mo [.int (iI th), .int (iI n), .int (iI ac), .ref tha, .int (iI (bZ gk)), .ref rea, .ref poa, .int (iI mn), .ref cha, .ref goa, .ref lea, .int (iI nv), .int (iI mm), .ref fia, .ref sea, .int (iI (bZ ck)), .ref sta, .ref lda, .ref vla, .int (iI (bZ gd)), .int (iI fl), .ref dia, .ref qua], ceZ G lda 25600 (fz Ld)]) F (cn_MO_cell l G (2 * t) ((2 * t) + 1)) zm_MO_cell zw_844 zw_843 zd_MO_isRound_20 ⟨by decide, by decide⟩ ⟨by decide, by decide⟩ [] [0, 1] rfl rfl ⟨rfl, rfl, by decide⟩ rfl rfl (Nat.le_of_ble_eq_true rfl) (vv_then (ws' := [ceO 7 mo [.int (iI th), .int (iI n), .int (iI ac), .ref tha, .int (iI (bZ gk)), .ref rea, .ref poa, .int (iI mn), .ref cha, .ref goa, .ref lea, .int (iI nv), .int (iI mm), .ref fia, .ref sea, .int (iI (bZ ck)), .ref sta, .ref lda, .ref vla, .int (iI (bZ gd)), .int (iI fl), .ref dia, .ref qua], ceZ G lda 25600 (fz Ld)]) (st' := [.int (iI (160 * (2 * t) + ((2 * t) + 1))), .ref lda]) [0, 1] rfl rfl rfl ?_)
    refine vv_zald F zd_MO_isRound_23 1 rfl ⟨by omega, by omega⟩ (by decide) ?_
    refine vv_ti (congrArg bZ (fzI (B := Ld) (u := 2 * t) (v := (2 * t) + 1) (by omega) ⟨by omega, by omega⟩)) ?_
    refine vv_if_eq (tgt := 44) F zd_MO_isRound_24 rfl (bZ_rg _) (fun h1 => ?_) (fun h1 => ?_)
    · have h1 : (Ld (2 * t).toNat ((2 * t) + 1).toNat) = false := (bZ_0 _).mp h1
      refine vv_iinc (j := 1) (lv' := [(0, .ref mo), (1, .int (iI ((2 * t) + 2)))]) F zd_MO_isRound_44 rfl (by decide) [1, 0] rfl ?_
      rw [show 2 * t + 2 = 2 * (t + 1) by omega]
      refine vv_goto (tgt := 2) F zd_MO_isRound_47 rfl ?_
      exact ih (t + 1)  (by omega) (⟨by omega, fun j hj => by
      by_cases z : j = t.toNat
      · subst z; unfold mrq; rw [show 2 * t.toNat = (2 * t).toNat by omega, show (2 * t).toNat + 1 = (2 * t + 1).toNat by omega, h1]; first | rfl | exact Bool.and_false _
      · exact hI.2 j (by omega)⟩)
    · have h1 : (Ld (2 * t).toNat ((2 * t) + 1).toNat) = true := by cases hb9 : (Ld (2 * t).toNat ((2 * t) + 1).toNat) with | true => rfl | false => exact absurd ((bZ_0 _).mpr hb9) h1
      refine vv_aload_n F zd_MO_isRound_27 rfl 0 rfl ?_
      refine vv_get F zd_MO_isRound_28 zf_MO 0 rfl rfl 17 (by decide) zw_773 rfl ?_
      refine vv_iload_n F zd_MO_isRound_31 rfl 1 rfl ?_
      refine vv_iconst F zd_MO_isRound_32 ?_
      refine vv_iadd F zd_MO_isRound_33 ?_
      refine vv_iload_n F zd_MO_isRound_34 rfl 1 rfl ?_
      refine vv_callS (As := [.int (iI ((2 * t) + 1)), .int (iI (2 * t))]) (rest := [.ref lda]) (wr := [ceO 7 mo [.int (iI th), .int (iI n), .int (iI ac), .ref tha, .int (iI (bZ gk)), .ref rea, .ref poa, .int (iI mn), .ref cha, .ref goa, .ref lea, .int (iI nv), .int (iI mm), .ref fia, .ref sea, .int (iI (bZ ck)), .ref sta, .ref lda, .ref vla, .int (iI (bZ gd)), .int (iI fl), .ref dia, .ref qua], ceZ G lda 25600 (fz Ld)]) F (cn_MO_cell l G ((2 * t) + 1) (2 * t)) zm_MO_cell zw_844 zw_843 zd_MO_isRound_35 ⟨by decide, by decide⟩ ⟨by decide, by decide⟩ [] [0, 1] rfl rfl ⟨rfl, rfl, by decide⟩ rfl rfl (Nat.le_of_ble_eq_true rfl) (vv_then (ws' := [ceO 7 mo [.int (iI th), .int (iI n), .int (iI ac), .ref tha, .int (iI (bZ gk)), .ref rea, .ref poa, .int (iI mn), .ref cha, .ref goa, .ref lea, .int (iI nv), .int (iI mm), .ref fia, .ref sea, .int (iI (bZ ck)), .ref sta, .ref lda, .ref vla, .int (iI (bZ gd)), .int (iI fl), .ref dia, .ref qua], ceZ G lda 25600 (fz Ld)]) (st' := [.int (iI (160 * ((2 * t) + 1) + (2 * t))), .ref lda]) [0, 1] rfl rfl rfl ?_)
      refine vv_zald F zd_MO_isRound_38 1 rfl ⟨by omega, by omega⟩ (by decide) ?_
      refine vv_ti (congrArg bZ (fzI (B := Ld) (u := (2 * t) + 1) (v := 2 * t) (by omega) ⟨by omega, by omega⟩)) ?_
      refine vv_if_eq (tgt := 44) F zd_MO_isRound_39 rfl (bZ_rg _) (fun h2 => ?_) (fun h2 => ?_)
      · have h2 : (Ld ((2 * t) + 1).toNat (2 * t).toNat) = false := (bZ_0 _).mp h2
        refine vv_iinc (j := 1) (lv' := [(0, .ref mo), (1, .int (iI ((2 * t) + 2)))]) F zd_MO_isRound_44 rfl (by decide) [1, 0] rfl ?_
        rw [show 2 * t + 2 = 2 * (t + 1) by omega]
        refine vv_goto (tgt := 2) F zd_MO_isRound_47 rfl ?_
        exact ih (t + 1)  (by omega) (⟨by omega, fun j hj => by
      by_cases z : j = t.toNat
      · subst z; unfold mrq; rw [show 2 * t.toNat = (2 * t).toNat by omega, show (2 * t).toNat + 1 = (2 * t + 1).toNat by omega, h2]; first | rfl | exact Bool.and_false _
      · exact hI.2 j (by omega)⟩)
      · have h2 : (Ld ((2 * t) + 1).toNat (2 * t).toNat) = true := by cases hb9 : (Ld ((2 * t) + 1).toNat (2 * t).toNat) with | true => rfl | false => exact absurd ((bZ_0 _).mpr hb9) h2
        refine vv_iconst F zd_MO_isRound_42 ?_
        exact vv_zret (v := true) F zd_MO_isRound_43 ⟨by
        have hh : mrq Ld t.toNat = true := by unfold mrq; rw [show 2 * t.toNat = (2 * t).toNat by omega, show (2 * t).toNat + 1 = (2 * t + 1).toNat by omega, h1, h2]; rfl
        have h9 := cN_strict (show t.toNat < nv.toNat by omega) hh
        rw [decide_eq_true (by omega)], rfl⟩

set_option maxHeartbeats 4000000 in
set_option maxRecDepth 100000 in
theorem cn_MO_isRound (l : Launch) (G : vv_G) (mo : Nat) (th : Int) (n : Int) (ac : Int) (tha : Nat) (gk : Bool) (rea : Nat) (poa : Nat) (mn : Int) (cha : Nat) (goa : Nat) (lea : Nat) (nv : Int) (mm : Int) (fia : Nat) (sea : Nat) (ck : Bool) (sta : Nat) (lda : Nat) (vla : Nat) (gd : Bool) (fl : Int) (dia : Nat) (qua : Nat) (Ld : Nat → Nat → Bool) (hv : 1 ≤ nv ∧ nv ≤ 80) :
    vv_D l zy_MO_isRound zc_MO_isRound 2 (some .boolean) { frames := 1, cells := 0, slots := 0, locals := 21 } G [.ref mo] [ceO 7 mo [.int (iI th), .int (iI n), .int (iI ac), .ref tha, .int (iI (bZ gk)), .ref rea, .ref poa, .int (iI mn), .ref cha, .ref goa, .ref lea, .int (iI nv), .int (iI mm), .ref fia, .ref sea, .int (iI (bZ ck)), .ref sta, .ref lda, .ref vla, .int (iI (bZ gd)), .int (iI fl), .ref dia, .ref qua], ceZ G lda 25600 (fz Ld)] (some (.int (iI (bZ (decide (cN (mrq Ld) nv.toNat ≠ 0)))))) [ceO 7 mo [.int (iI th), .int (iI n), .int (iI ac), .ref tha, .int (iI (bZ gk)), .ref rea, .ref poa, .int (iI mn), .ref cha, .ref goa, .ref lea, .int (iI nv), .int (iI mm), .ref fia, .ref sea, .int (iI (bZ ck)), .ref sta, .ref lda, .ref vla, .int (iI (bZ gd)), .int (iI fl), .ref dia, .ref qua], ceZ G lda 25600 (fz Ld)] := by
  refine vv_met (by decide +kernel) (Nat.le_of_ble_eq_true rfl) rfl ?_
  intro p e s m args below meth c A F
  refine vv_iconst F zd_MO_isRound_0 ?_
  refine vv_istore_n (lv' := [(0, .ref mo), (1, .int (iI 0))]) F zd_MO_isRound_1 rfl (by decide) [1, 0] rfl ?_
  refine lp_MO_ir F mo th n ac tha gk rea poa mn cha goa lea nv mm fia sea ck sta lda vla gd fl dia qua Ld hv (fun hI => ?_) nv.toNat 0 (by omega) ⟨by omega, fun j hj => by omega⟩
  refine vv_iconst F zd_MO_isRound_50 ?_
  exact vv_zret (v := false) F zd_MO_isRound_51 ⟨by rw [decide_eq_false (fun q => q (cN_z (fun j hj => hI.2 j (by omega))))], rfl⟩
