/-- a node that is none -/
def nno (n u : Int) : Prop := u < 0 ∨ n ≤ u
/-- the reference's arc -/
def marc (n ac : Int) (gk : Bool) (B : Nat → Nat → Bool) (u v th2 ac2 : Int) (gk2 : Bool) (B2 : Nat → Nat → Bool) (z : Int) : Prop :=
  ((nno n u ∨ nno n v) ∧ th2 = 1 ∧ ac2 = ac ∧ gk2 = gk ∧ B2 = B ∧ z = 0) ∨
  ((0 ≤ u ∧ u < n) ∧ (0 ≤ v ∧ v < n) ∧ (B u.toNat v.toNat = true ∨ ac = 1000) ∧ th2 = 0 ∧ ac2 = ac ∧ gk2 = gk ∧ B2 = B ∧ z = -1) ∨
  ((0 ≤ u ∧ u < n) ∧ (0 ≤ v ∧ v < n) ∧ B u.toNat v.toNat = false ∧ ac ≠ 1000 ∧ th2 = 0 ∧ ac2 = ac + 1 ∧ gk2 = false ∧ B2 = bP B u.toNat v.toNat true ∧ z = ac + 1)
/-- the reference's cut -/
def mcut (n ac : Int) (gk : Bool) (B : Nat → Nat → Bool) (u v th2 ac2 : Int) (gk2 : Bool) (B2 : Nat → Nat → Bool) (z : Bool) : Prop :=
  ((nno n u ∨ nno n v) ∧ th2 = 1 ∧ ac2 = ac ∧ gk2 = gk ∧ B2 = B ∧ z = false) ∨
  ((0 ≤ u ∧ u < n) ∧ (0 ≤ v ∧ v < n) ∧ B u.toNat v.toNat = false ∧ th2 = 0 ∧ ac2 = ac ∧ gk2 = gk ∧ B2 = B ∧ z = false) ∨
  ((0 ≤ u ∧ u < n) ∧ (0 ≤ v ∧ v < n) ∧ B u.toNat v.toNat = true ∧ th2 = 0 ∧ ac2 = ac - 1 ∧ gk2 = false ∧ B2 = bP B u.toNat v.toNat false ∧ z = true)

set_option maxHeartbeats 4000000 in
set_option maxRecDepth 100000 in
theorem cn_MO_arc (l : Launch) (G : vv_G) (mo : Nat) (th : Int) (n : Int) (ac : Int) (tha : Nat) (gk : Bool) (rea : Nat) (poa : Nat) (mn : Int) (cha : Nat) (goa : Nat) (lea : Nat) (nv : Int) (mm : Int) (fia : Nat) (sea : Nat) (ck : Bool) (sta : Nat) (lda : Nat) (vla : Nat) (gd : Bool) (fl : Int) (dia : Nat) (qua : Nat) (B : Nat → Nat → Bool) (u : Int) (v : Int) (hn : 1 ≤ n ∧ n ≤ 160) (hu : rg u) (hv : rg v) (ha : 0 ≤ ac ∧ ac ≤ 1000) :
    vv_C l zy_MO_arc zc_MO_arc 3 (some .int) { frames := 1, cells := 0, slots := 0, locals := 21 } G [.ref mo, .int (iI u), .int (iI v)] [ceO 7 mo [.int (iI th), .int (iI n), .int (iI ac), .ref tha, .int (iI (bZ gk)), .ref rea, .ref poa, .int (iI mn), .ref cha, .ref goa, .ref lea, .int (iI nv), .int (iI mm), .ref fia, .ref sea, .int (iI (bZ ck)), .ref sta, .ref lda, .ref vla, .int (iI (bZ gd)), .int (iI fl), .ref dia, .ref qua], ceZ G tha 25600 (fz B)] (fun v7 w7 => ∃ (th2 : Int) (ac2 : Int) (gk2 : Bool) (B2 : Nat → Nat → Bool) (z : Int), (marc n ac gk B u v th2 ac2 gk2 B2 z) ∧ v7 = some (.int (iI z)) ∧ w7 = [ceO 7 mo [.int (iI th2), .int (iI n), .int (iI ac2), .ref tha, .int (iI (bZ gk2)), .ref rea, .ref poa, .int (iI mn), .ref cha, .ref goa, .ref lea, .int (iI nv), .int (iI mm), .ref fia, .ref sea, .int (iI (bZ ck)), .ref sta, .ref lda, .ref vla, .int (iI (bZ gd)), .int (iI fl), .ref dia, .ref qua], ceZ G tha 25600 (fz B2)]) := by
  refine vv_met (by decide +kernel) (Nat.le_of_ble_eq_true rfl) rfl ?_
  intro p e s m args below meth c A F
  refine vv_aload_n F zd_MO_arc_0 rfl 0 rfl ?_
  refine vv_aload_n F zd_MO_arc_1 rfl 0 rfl ?_
  refine vv_iload_n F zd_MO_arc_2 rfl 1 rfl ?_
  refine vv_callV (q0 := 0) (As := [.int (iI u)]) (rest := [.ref mo]) (wr := [ceZ G tha 25600 (fz B)]) F (cn_MO_noNode l G mo th n ac tha gk rea poa mn cha goa lea nv mm fia sea ck sta lda vla gd fl dia qua u hu ⟨by omega, by omega⟩) zm_MO_noNode ⟨zw_841, zs_MO_noNode⟩ zw_839 zd_MO_arc_3 ⟨by decide, by decide⟩ ⟨by decide, by decide⟩ [0] [1] rfl rfl ⟨rfl, rfl, by decide⟩ rfl rfl rfl rfl (Nat.le_of_ble_eq_true rfl) (vv_then (ws' := [ceO 7 mo [.int (iI th), .int (iI n), .int (iI ac), .ref tha, .int (iI (bZ gk)), .ref rea, .ref poa, .int (iI mn), .ref cha, .ref goa, .ref lea, .int (iI nv), .int (iI mm), .ref fia, .ref sea, .int (iI (bZ ck)), .ref sta, .ref lda, .ref vla, .int (iI (bZ gd)), .int (iI fl), .ref dia, .ref qua], ceZ G tha 25600 (fz B)]) (st' := [.int (iI (bZ (decide (u < 0 ∨ n ≤ u)))), .ref mo]) [1, 0] rfl rfl rfl ?_)
  refine vv_if_ne (tgt := 17) F zd_MO_arc_6 rfl (bZ_rg _) (fun h1 => ?_) (fun h1 => ?_)
  · have h1 : (decide (u < 0 ∨ n ≤ u)) = true := by cases hb9 : (decide (u < 0 ∨ n ≤ u)) with | true => rfl | false => exact absurd ((bZ_0 _).mpr hb9) h1
    have h1 := of_decide_eq_true h1
    refine vv_iconst F zd_MO_arc_17 ?_
    refine vv_goto (tgt := 22) F zd_MO_arc_18 rfl ?_
    refine vv_put (v := .int (iI 1)) (ws' := [ceO 7 mo [.int (iI 1), .int (iI n), .int (iI ac), .ref tha, .int (iI (bZ gk)), .ref rea, .ref poa, .int (iI mn), .ref cha, .ref goa, .ref lea, .int (iI nv), .int (iI mm), .ref fia, .ref sea, .int (iI (bZ ck)), .ref sta, .ref lda, .ref vla, .int (iI (bZ gd)), .int (iI fl), .ref dia, .ref qua], ceZ G tha 25600 (fz B)]) F zd_MO_arc_22 zf_MO zt_MO_ok zn_MO 0 rfl rfl 0 (by decide) zw_756 rfl rfl rfl (Nat.le_of_ble_eq_true rfl) rfl ?_
    refine vv_aload_n F zd_MO_arc_25 rfl 0 rfl ?_
    refine vv_get F zd_MO_arc_26 zf_MO 0 rfl rfl 0 (by decide) zw_756 rfl ?_
    refine vv_if_le (tgt := 34) F zd_MO_arc_29 rfl (by decide) (fun h9 => absurd h9 (by decide)) (fun _ => ?_)
    refine vv_iconst F zd_MO_arc_32 ?_
    exact vv_iret F zd_MO_arc_33 ⟨_, ac, gk, B, _, Or.inl ⟨by unfold nno; omega, rfl, rfl, rfl, rfl, rfl⟩, rfl, rfl⟩
  · have h1 : (decide (u < 0 ∨ n ≤ u)) = false := (bZ_0 _).mp h1
    have h1 := of_decide_eq_false h1
    refine vv_aload_n F zd_MO_arc_9 rfl 0 rfl ?_
    refine vv_iload_n F zd_MO_arc_10 rfl 2 rfl ?_
    refine vv_callV (q0 := 0) (As := [.int (iI v)]) (rest := [.ref mo]) (wr := [ceZ G tha 25600 (fz B)]) F (cn_MO_noNode l G mo th n ac tha gk rea poa mn cha goa lea nv mm fia sea ck sta lda vla gd fl dia qua v hv ⟨by omega, by omega⟩) zm_MO_noNode ⟨zw_841, zs_MO_noNode⟩ zw_839 zd_MO_arc_11 ⟨by decide, by decide⟩ ⟨by decide, by decide⟩ [0] [1] rfl rfl ⟨rfl, rfl, by decide⟩ rfl rfl rfl rfl (Nat.le_of_ble_eq_true rfl) (vv_then (ws' := [ceO 7 mo [.int (iI th), .int (iI n), .int (iI ac), .ref tha, .int (iI (bZ gk)), .ref rea, .ref poa, .int (iI mn), .ref cha, .ref goa, .ref lea, .int (iI nv), .int (iI mm), .ref fia, .ref sea, .int (iI (bZ ck)), .ref sta, .ref lda, .ref vla, .int (iI (bZ gd)), .int (iI fl), .ref dia, .ref qua], ceZ G tha 25600 (fz B)]) (st' := [.int (iI (bZ (decide (v < 0 ∨ n ≤ v)))), .ref mo]) [1, 0] rfl rfl rfl ?_)
    refine vv_if_eq (tgt := 21) F zd_MO_arc_14 rfl (bZ_rg _) (fun h2 => ?_) (fun h2 => ?_)
    · have h2 : (decide (v < 0 ∨ n ≤ v)) = false := (bZ_0 _).mp h2
      have h2 := of_decide_eq_false h2
      refine vv_iconst F zd_MO_arc_21 ?_
      refine vv_put (v := .int (iI 0)) (ws' := [ceO 7 mo [.int (iI 0), .int (iI n), .int (iI ac), .ref tha, .int (iI (bZ gk)), .ref rea, .ref poa, .int (iI mn), .ref cha, .ref goa, .ref lea, .int (iI nv), .int (iI mm), .ref fia, .ref sea, .int (iI (bZ ck)), .ref sta, .ref lda, .ref vla, .int (iI (bZ gd)), .int (iI fl), .ref dia, .ref qua], ceZ G tha 25600 (fz B)]) F zd_MO_arc_22 zf_MO zt_MO_ok zn_MO 0 rfl rfl 0 (by decide) zw_756 rfl rfl rfl (Nat.le_of_ble_eq_true rfl) rfl ?_
      refine vv_aload_n F zd_MO_arc_25 rfl 0 rfl ?_
      refine vv_get F zd_MO_arc_26 zf_MO 0 rfl rfl 0 (by decide) zw_756 rfl ?_
      refine vv_if_le (tgt := 34) F zd_MO_arc_29 rfl (by decide) (fun _ => ?_) (fun h9 => absurd h9 (by decide))
      refine vv_aload_n F zd_MO_arc_34 rfl 0 rfl ?_
      refine vv_get F zd_MO_arc_35 zf_MO 0 rfl rfl 3 (by decide) zw_759 rfl ?_
      refine vv_iload_n F zd_MO_arc_38 rfl 1 rfl ?_
      refine vv_iload_n F zd_MO_arc_39 rfl 2 rfl ?_
      refine vv_callS (As := [.int (iI u), .int (iI v)]) (rest := [.ref tha]) (wr := [ceO 7 mo [.int (iI 0), .int (iI n), .int (iI ac), .ref tha, .int (iI (bZ gk)), .ref rea, .ref poa, .int (iI mn), .ref cha, .ref goa, .ref lea, .int (iI nv), .int (iI mm), .ref fia, .ref sea, .int (iI (bZ ck)), .ref sta, .ref lda, .ref vla, .int (iI (bZ gd)), .int (iI fl), .ref dia, .ref qua], ceZ G tha 25600 (fz B)]) F (cn_MO_cell l G u v) zm_MO_cell zw_844 zw_843 zd_MO_arc_40 ⟨by decide, by decide⟩ ⟨by decide, by decide⟩ [] [0, 1] rfl rfl ⟨rfl, rfl, by decide⟩ rfl rfl (Nat.le_of_ble_eq_true rfl) (vv_then (ws' := [ceO 7 mo [.int (iI 0), .int (iI n), .int (iI ac), .ref tha, .int (iI (bZ gk)), .ref rea, .ref poa, .int (iI mn), .ref cha, .ref goa, .ref lea, .int (iI nv), .int (iI mm), .ref fia, .ref sea, .int (iI (bZ ck)), .ref sta, .ref lda, .ref vla, .int (iI (bZ gd)), .int (iI fl), .ref dia, .ref qua], ceZ G tha 25600 (fz B)]) (st' := [.int (iI (160 * u + v)), .ref tha]) [0, 1] rfl rfl rfl ?_)
      refine vv_zald F zd_MO_arc_43 1 rfl ⟨by omega, by omega⟩ (by decide) ?_
      refine vv_ti (congrArg bZ (fzI (B := B) (u := u) (v := v) (by omega) ⟨by omega, by omega⟩)) ?_
      refine vv_if_ne (tgt := 57) F zd_MO_arc_44 rfl (bZ_rg _) (fun h3 => ?_) (fun h3 => ?_)
      · have h3 : (B u.toNat v.toNat) = true := by cases hb9 : (B u.toNat v.toNat) with | true => rfl | false => exact absurd ((bZ_0 _).mpr hb9) h3
        refine vv_iconst F zd_MO_arc_57 ?_
        exact vv_iret F zd_MO_arc_58 ⟨_, ac, gk, B, _, Or.inr (Or.inl ⟨⟨by omega, by omega⟩, ⟨by omega, by omega⟩, Or.inl h3, rfl, rfl, rfl, rfl, rfl⟩), rfl, rfl⟩
      · have h3 : (B u.toNat v.toNat) = false := (bZ_0 _).mp h3
        refine vv_aload_n F zd_MO_arc_47 rfl 0 rfl ?_
        refine vv_get F zd_MO_arc_48 zf_MO 0 rfl rfl 2 (by decide) zw_758 rfl ?_
        refine vv_sipush F zd_MO_arc_51 (by decide) ?_
        refine vv_icmp_ne (tgt := 59) F zd_MO_arc_54 rfl (by first | exact ⟨by omega, by omega⟩ | exact hu | exact hv) (by decide) (fun h4 => ?_) (fun h4 => ?_)
        · refine vv_aload_n F zd_MO_arc_59 rfl 0 rfl ?_
          refine vv_get F zd_MO_arc_60 zf_MO 0 rfl rfl 3 (by decide) zw_759 rfl ?_
          refine vv_iload_n F zd_MO_arc_63 rfl 1 rfl ?_
          refine vv_iload_n F zd_MO_arc_64 rfl 2 rfl ?_
          refine vv_callS (As := [.int (iI u), .int (iI v)]) (rest := [.ref tha]) (wr := [ceO 7 mo [.int (iI 0), .int (iI n), .int (iI ac), .ref tha, .int (iI (bZ gk)), .ref rea, .ref poa, .int (iI mn), .ref cha, .ref goa, .ref lea, .int (iI nv), .int (iI mm), .ref fia, .ref sea, .int (iI (bZ ck)), .ref sta, .ref lda, .ref vla, .int (iI (bZ gd)), .int (iI fl), .ref dia, .ref qua], ceZ G tha 25600 (fz B)]) F (cn_MO_cell l G u v) zm_MO_cell zw_844 zw_843 zd_MO_arc_65 ⟨by decide, by decide⟩ ⟨by decide, by decide⟩ [] [0, 1] rfl rfl ⟨rfl, rfl, by decide⟩ rfl rfl (Nat.le_of_ble_eq_true rfl) (vv_then (ws' := [ceO 7 mo [.int (iI 0), .int (iI n), .int (iI ac), .ref tha, .int (iI (bZ gk)), .ref rea, .ref poa, .int (iI mn), .ref cha, .ref goa, .ref lea, .int (iI nv), .int (iI mm), .ref fia, .ref sea, .int (iI (bZ ck)), .ref sta, .ref lda, .ref vla, .int (iI (bZ gd)), .int (iI fl), .ref dia, .ref qua], ceZ G tha 25600 (fz B)]) (st' := [.int (iI (160 * u + v)), .ref tha]) [0, 1] rfl rfl rfl ?_)
          refine vv_iconst F zd_MO_arc_68 ?_
          refine vv_ti (show (1 : Int) = bZ true from rfl) ?_
          refine vv_zast (x := true) (ws' := [ceO 7 mo [.int (iI 0), .int (iI n), .int (iI ac), .ref tha, .int (iI (bZ gk)), .ref rea, .ref poa, .int (iI mn), .ref cha, .ref goa, .ref lea, .int (iI nv), .int (iI mm), .ref fia, .ref sea, .int (iI (bZ ck)), .ref sta, .ref lda, .ref vla, .int (iI (bZ gd)), .int (iI fl), .ref dia, .ref qua], ceZ G tha 25600 (fz (bP B u.toNat v.toNat true))]) F zd_MO_arc_69 1 rfl ⟨by omega, by omega⟩ (by decide) (by rw [fzU (by omega) ⟨by omega, by omega⟩]; first | done | rfl) ?_
          refine vv_aload_n F zd_MO_arc_70 rfl 0 rfl ?_
          refine vv_dup F zd_MO_arc_71 rfl ?_
          refine vv_get F zd_MO_arc_72 zf_MO 0 rfl rfl 2 (by decide) zw_758 rfl ?_
          refine vv_iconst F zd_MO_arc_75 ?_
          refine vv_iadd F zd_MO_arc_76 ?_
          refine vv_put (v := .int (iI (ac + 1))) (ws' := [ceO 7 mo [.int (iI 0), .int (iI n), .int (iI (ac + 1)), .ref tha, .int (iI (bZ gk)), .ref rea, .ref poa, .int (iI mn), .ref cha, .ref goa, .ref lea, .int (iI nv), .int (iI mm), .ref fia, .ref sea, .int (iI (bZ ck)), .ref sta, .ref lda, .ref vla, .int (iI (bZ gd)), .int (iI fl), .ref dia, .ref qua], ceZ G tha 25600 (fz (bP B u.toNat v.toNat true))]) F zd_MO_arc_77 zf_MO zt_MO_ok zn_MO 0 rfl rfl 2 (by decide) zw_758 rfl rfl rfl (Nat.le_of_ble_eq_true rfl) rfl ?_
          refine vv_aload_n F zd_MO_arc_80 rfl 0 rfl ?_
          refine vv_iconst F zd_MO_arc_81 ?_
          refine vv_ti (show (0 : Int) = bZ false from rfl) ?_
          refine vv_put (v := .int (iI (bZ false))) (ws' := [ceO 7 mo [.int (iI 0), .int (iI n), .int (iI (ac + 1)), .ref tha, .int (iI (bZ false)), .ref rea, .ref poa, .int (iI mn), .ref cha, .ref goa, .ref lea, .int (iI nv), .int (iI mm), .ref fia, .ref sea, .int (iI (bZ ck)), .ref sta, .ref lda, .ref vla, .int (iI (bZ gd)), .int (iI fl), .ref dia, .ref qua], ceZ G tha 25600 (fz (bP B u.toNat v.toNat true))]) F zd_MO_arc_82 zf_MO zt_MO_ok zn_MO 0 rfl rfl 4 (by decide) zw_760 rfl (nb_bZ false) (fb_bZ false) (Nat.le_of_ble_eq_true rfl) rfl ?_
          refine vv_aload_n F zd_MO_arc_85 rfl 0 rfl ?_
          refine vv_get F zd_MO_arc_86 zf_MO 0 rfl rfl 2 (by decide) zw_758 rfl ?_
          exact vv_iret F zd_MO_arc_89 ⟨_, _, false, _, _, Or.inr (Or.inr ⟨⟨by omega, by omega⟩, ⟨by omega, by omega⟩, h3, by omega, rfl, rfl, rfl, rfl, rfl⟩), rfl, rfl⟩
        · refine vv_iconst F zd_MO_arc_57 ?_
          exact vv_iret F zd_MO_arc_58 ⟨_, ac, gk, B, _, Or.inr (Or.inl ⟨⟨by omega, by omega⟩, ⟨by omega, by omega⟩, Or.inr (by omega), rfl, rfl, rfl, rfl, rfl⟩), rfl, rfl⟩
    · have h2 : (decide (v < 0 ∨ n ≤ v)) = true := by cases hb9 : (decide (v < 0 ∨ n ≤ v)) with | true => rfl | false => exact absurd ((bZ_0 _).mpr hb9) h2
      have h2 := of_decide_eq_true h2
      refine vv_iconst F zd_MO_arc_17 ?_
      refine vv_goto (tgt := 22) F zd_MO_arc_18 rfl ?_
      refine vv_put (v := .int (iI 1)) (ws' := [ceO 7 mo [.int (iI 1), .int (iI n), .int (iI ac), .ref tha, .int (iI (bZ gk)), .ref rea, .ref poa, .int (iI mn), .ref cha, .ref goa, .ref lea, .int (iI nv), .int (iI mm), .ref fia, .ref sea, .int (iI (bZ ck)), .ref sta, .ref lda, .ref vla, .int (iI (bZ gd)), .int (iI fl), .ref dia, .ref qua], ceZ G tha 25600 (fz B)]) F zd_MO_arc_22 zf_MO zt_MO_ok zn_MO 0 rfl rfl 0 (by decide) zw_756 rfl rfl rfl (Nat.le_of_ble_eq_true rfl) rfl ?_
      refine vv_aload_n F zd_MO_arc_25 rfl 0 rfl ?_
      refine vv_get F zd_MO_arc_26 zf_MO 0 rfl rfl 0 (by decide) zw_756 rfl ?_
      refine vv_if_le (tgt := 34) F zd_MO_arc_29 rfl (by decide) (fun h9 => absurd h9 (by decide)) (fun _ => ?_)
      refine vv_iconst F zd_MO_arc_32 ?_
      exact vv_iret F zd_MO_arc_33 ⟨_, ac, gk, B, _, Or.inl ⟨by unfold nno; omega, rfl, rfl, rfl, rfl, rfl⟩, rfl, rfl⟩

set_option maxHeartbeats 4000000 in
set_option maxRecDepth 100000 in
theorem cn_MO_cut (l : Launch) (G : vv_G) (mo : Nat) (th : Int) (n : Int) (ac : Int) (tha : Nat) (gk : Bool) (rea : Nat) (poa : Nat) (mn : Int) (cha : Nat) (goa : Nat) (lea : Nat) (nv : Int) (mm : Int) (fia : Nat) (sea : Nat) (ck : Bool) (sta : Nat) (lda : Nat) (vla : Nat) (gd : Bool) (fl : Int) (dia : Nat) (qua : Nat) (B : Nat → Nat → Bool) (u : Int) (v : Int) (hn : 1 ≤ n ∧ n ≤ 160) (hu : rg u) (hv : rg v) :
    vv_C l zy_MO_cut zc_MO_cut 3 (some .boolean) { frames := 1, cells := 0, slots := 0, locals := 21 } G [.ref mo, .int (iI u), .int (iI v)] [ceO 7 mo [.int (iI th), .int (iI n), .int (iI ac), .ref tha, .int (iI (bZ gk)), .ref rea, .ref poa, .int (iI mn), .ref cha, .ref goa, .ref lea, .int (iI nv), .int (iI mm), .ref fia, .ref sea, .int (iI (bZ ck)), .ref sta, .ref lda, .ref vla, .int (iI (bZ gd)), .int (iI fl), .ref dia, .ref qua], ceZ G tha 25600 (fz B)] (fun v7 w7 => ∃ (th2 : Int) (ac2 : Int) (gk2 : Bool) (B2 : Nat → Nat → Bool) (z : Bool), (mcut n ac gk B u v th2 ac2 gk2 B2 z) ∧ v7 = some (.int (iI (bZ z))) ∧ w7 = [ceO 7 mo [.int (iI th2), .int (iI n), .int (iI ac2), .ref tha, .int (iI (bZ gk2)), .ref rea, .ref poa, .int (iI mn), .ref cha, .ref goa, .ref lea, .int (iI nv), .int (iI mm), .ref fia, .ref sea, .int (iI (bZ ck)), .ref sta, .ref lda, .ref vla, .int (iI (bZ gd)), .int (iI fl), .ref dia, .ref qua], ceZ G tha 25600 (fz B2)]) := by
  refine vv_met (by decide +kernel) (Nat.le_of_ble_eq_true rfl) rfl ?_
  intro p e s m args below meth c A F
  refine vv_aload_n F zd_MO_cut_0 rfl 0 rfl ?_
  refine vv_aload_n F zd_MO_cut_1 rfl 0 rfl ?_
  refine vv_iload_n F zd_MO_cut_2 rfl 1 rfl ?_
  refine vv_callV (q0 := 0) (As := [.int (iI u)]) (rest := [.ref mo]) (wr := [ceZ G tha 25600 (fz B)]) F (cn_MO_noNode l G mo th n ac tha gk rea poa mn cha goa lea nv mm fia sea ck sta lda vla gd fl dia qua u hu ⟨by omega, by omega⟩) zm_MO_noNode ⟨zw_841, zs_MO_noNode⟩ zw_839 zd_MO_cut_3 ⟨by decide, by decide⟩ ⟨by decide, by decide⟩ [0] [1] rfl rfl ⟨rfl, rfl, by decide⟩ rfl rfl rfl rfl (Nat.le_of_ble_eq_true rfl) (vv_then (ws' := [ceO 7 mo [.int (iI th), .int (iI n), .int (iI ac), .ref tha, .int (iI (bZ gk)), .ref rea, .ref poa, .int (iI mn), .ref cha, .ref goa, .ref lea, .int (iI nv), .int (iI mm), .ref fia, .ref sea, .int (iI (bZ ck)), .ref sta, .ref lda, .ref vla, .int (iI (bZ gd)), .int (iI fl), .ref dia, .ref qua], ceZ G tha 25600 (fz B)]) (st' := [.int (iI (bZ (decide (u < 0 ∨ n ≤ u)))), .ref mo]) [1, 0] rfl rfl rfl ?_)
  refine vv_if_ne (tgt := 17) F zd_MO_cut_6 rfl (bZ_rg _) (fun h1 => ?_) (fun h1 => ?_)
  · have h1 : (decide (u < 0 ∨ n ≤ u)) = true := by cases hb9 : (decide (u < 0 ∨ n ≤ u)) with | true => rfl | false => exact absurd ((bZ_0 _).mpr hb9) h1
    have h1 := of_decide_eq_true h1
    refine vv_iconst F zd_MO_cut_17 ?_
    refine vv_goto (tgt := 22) F zd_MO_cut_18 rfl ?_
    refine vv_put (v := .int (iI 1)) (ws' := [ceO 7 mo [.int (iI 1), .int (iI n), .int (iI ac), .ref tha, .int (iI (bZ gk)), .ref rea, .ref poa, .int (iI mn), .ref cha, .ref goa, .ref lea, .int (iI nv), .int (iI mm), .ref fia, .ref sea, .int (iI (bZ ck)), .ref sta, .ref lda, .ref vla, .int (iI (bZ gd)), .int (iI fl), .ref dia, .ref qua], ceZ G tha 25600 (fz B)]) F zd_MO_cut_22 zf_MO zt_MO_ok zn_MO 0 rfl rfl 0 (by decide) zw_756 rfl rfl rfl (Nat.le_of_ble_eq_true rfl) rfl ?_
    refine vv_aload_n F zd_MO_cut_25 rfl 0 rfl ?_
    refine vv_get F zd_MO_cut_26 zf_MO 0 rfl rfl 0 (by decide) zw_756 rfl ?_
    refine vv_if_gt (tgt := 45) F zd_MO_cut_29 rfl (by decide) (fun _ => ?_) (fun h9 => absurd h9 (by decide))
    refine vv_iconst F zd_MO_cut_45 ?_
    exact vv_zret (v := false) F zd_MO_cut_46 ⟨_, ac, gk, B, false, Or.inl ⟨by unfold nno; omega, rfl, rfl, rfl, rfl, rfl⟩, rfl, rfl⟩
  · have h1 : (decide (u < 0 ∨ n ≤ u)) = false := (bZ_0 _).mp h1
    have h1 := of_decide_eq_false h1
    refine vv_aload_n F zd_MO_cut_9 rfl 0 rfl ?_
    refine vv_iload_n F zd_MO_cut_10 rfl 2 rfl ?_
    refine vv_callV (q0 := 0) (As := [.int (iI v)]) (rest := [.ref mo]) (wr := [ceZ G tha 25600 (fz B)]) F (cn_MO_noNode l G mo th n ac tha gk rea poa mn cha goa lea nv mm fia sea ck sta lda vla gd fl dia qua v hv ⟨by omega, by omega⟩) zm_MO_noNode ⟨zw_841, zs_MO_noNode⟩ zw_839 zd_MO_cut_11 ⟨by decide, by decide⟩ ⟨by decide, by decide⟩ [0] [1] rfl rfl ⟨rfl, rfl, by decide⟩ rfl rfl rfl rfl (Nat.le_of_ble_eq_true rfl) (vv_then (ws' := [ceO 7 mo [.int (iI th), .int (iI n), .int (iI ac), .ref tha, .int (iI (bZ gk)), .ref rea, .ref poa, .int (iI mn), .ref cha, .ref goa, .ref lea, .int (iI nv), .int (iI mm), .ref fia, .ref sea, .int (iI (bZ ck)), .ref sta, .ref lda, .ref vla, .int (iI (bZ gd)), .int (iI fl), .ref dia, .ref qua], ceZ G tha 25600 (fz B)]) (st' := [.int (iI (bZ (decide (v < 0 ∨ n ≤ v)))), .ref mo]) [1, 0] rfl rfl rfl ?_)
    refine vv_if_eq (tgt := 21) F zd_MO_cut_14 rfl (bZ_rg _) (fun h2 => ?_) (fun h2 => ?_)
    · have h2 : (decide (v < 0 ∨ n ≤ v)) = false := (bZ_0 _).mp h2
      have h2 := of_decide_eq_false h2
      refine vv_iconst F zd_MO_cut_21 ?_
      refine vv_put (v := .int (iI 0)) (ws' := [ceO 7 mo [.int (iI 0), .int (iI n), .int (iI ac), .ref tha, .int (iI (bZ gk)), .ref rea, .ref poa, .int (iI mn), .ref cha, .ref goa, .ref lea, .int (iI nv), .int (iI mm), .ref fia, .ref sea, .int (iI (bZ ck)), .ref sta, .ref lda, .ref vla, .int (iI (bZ gd)), .int (iI fl), .ref dia, .ref qua], ceZ G tha 25600 (fz B)]) F zd_MO_cut_22 zf_MO zt_MO_ok zn_MO 0 rfl rfl 0 (by decide) zw_756 rfl rfl rfl (Nat.le_of_ble_eq_true rfl) rfl ?_
      refine vv_aload_n F zd_MO_cut_25 rfl 0 rfl ?_
      refine vv_get F zd_MO_cut_26 zf_MO 0 rfl rfl 0 (by decide) zw_756 rfl ?_
      refine vv_if_gt (tgt := 45) F zd_MO_cut_29 rfl (by decide) (fun h9 => absurd h9 (by decide)) (fun _ => ?_)
      refine vv_aload_n F zd_MO_cut_32 rfl 0 rfl ?_
      refine vv_get F zd_MO_cut_33 zf_MO 0 rfl rfl 3 (by decide) zw_759 rfl ?_
      refine vv_iload_n F zd_MO_cut_36 rfl 1 rfl ?_
      refine vv_iload_n F zd_MO_cut_37 rfl 2 rfl ?_
      refine vv_callS (As := [.int (iI u), .int (iI v)]) (rest := [.ref tha]) (wr := [ceO 7 mo [.int (iI 0), .int (iI n), .int (iI ac), .ref tha, .int (iI (bZ gk)), .ref rea, .ref poa, .int (iI mn), .ref cha, .ref goa, .ref lea, .int (iI nv), .int (iI mm), .ref fia, .ref sea, .int (iI (bZ ck)), .ref sta, .ref lda, .ref vla, .int (iI (bZ gd)), .int (iI fl), .ref dia, .ref qua], ceZ G tha 25600 (fz B)]) F (cn_MO_cell l G u v) zm_MO_cell zw_844 zw_843 zd_MO_cut_38 ⟨by decide, by decide⟩ ⟨by decide, by decide⟩ [] [0, 1] rfl rfl ⟨rfl, rfl, by decide⟩ rfl rfl (Nat.le_of_ble_eq_true rfl) (vv_then (ws' := [ceO 7 mo [.int (iI 0), .int (iI n), .int (iI ac), .ref tha, .int (iI (bZ gk)), .ref rea, .ref poa, .int (iI mn), .ref cha, .ref goa, .ref lea, .int (iI nv), .int (iI mm), .ref fia, .ref sea, .int (iI (bZ ck)), .ref sta, .ref lda, .ref vla, .int (iI (bZ gd)), .int (iI fl), .ref dia, .ref qua], ceZ G tha 25600 (fz B)]) (st' := [.int (iI (160 * u + v)), .ref tha]) [0, 1] rfl rfl rfl ?_)
      refine vv_zald F zd_MO_cut_41 1 rfl ⟨by omega, by omega⟩ (by decide) ?_
      refine vv_ti (congrArg bZ (fzI (B := B) (u := u) (v := v) (by omega) ⟨by omega, by omega⟩)) ?_
      refine vv_if_ne (tgt := 47) F zd_MO_cut_42 rfl (bZ_rg _) (fun h3 => ?_) (fun h3 => ?_)
      · have h3 : (B u.toNat v.toNat) = true := by cases hb9 : (B u.toNat v.toNat) with | true => rfl | false => exact absurd ((bZ_0 _).mpr hb9) h3
        refine vv_aload_n F zd_MO_cut_47 rfl 0 rfl ?_
        refine vv_get F zd_MO_cut_48 zf_MO 0 rfl rfl 3 (by decide) zw_759 rfl ?_
        refine vv_iload_n F zd_MO_cut_51 rfl 1 rfl ?_
        refine vv_iload_n F zd_MO_cut_52 rfl 2 rfl ?_
        refine vv_callS (As := [.int (iI u), .int (iI v)]) (rest := [.ref tha]) (wr := [ceO 7 mo [.int (iI 0), .int (iI n), .int (iI ac), .ref tha, .int (iI (bZ gk)), .ref rea, .ref poa, .int (iI mn), .ref cha, .ref goa, .ref lea, .int (iI nv), .int (iI mm), .ref fia, .ref sea, .int (iI (bZ ck)), .ref sta, .ref lda, .ref vla, .int (iI (bZ gd)), .int (iI fl), .ref dia, .ref qua], ceZ G tha 25600 (fz B)]) F (cn_MO_cell l G u v) zm_MO_cell zw_844 zw_843 zd_MO_cut_53 ⟨by decide, by decide⟩ ⟨by decide, by decide⟩ [] [0, 1] rfl rfl ⟨rfl, rfl, by decide⟩ rfl rfl (Nat.le_of_ble_eq_true rfl) (vv_then (ws' := [ceO 7 mo [.int (iI 0), .int (iI n), .int (iI ac), .ref tha, .int (iI (bZ gk)), .ref rea, .ref poa, .int (iI mn), .ref cha, .ref goa, .ref lea, .int (iI nv), .int (iI mm), .ref fia, .ref sea, .int (iI (bZ ck)), .ref sta, .ref lda, .ref vla, .int (iI (bZ gd)), .int (iI fl), .ref dia, .ref qua], ceZ G tha 25600 (fz B)]) (st' := [.int (iI (160 * u + v)), .ref tha]) [0, 1] rfl rfl rfl ?_)
        refine vv_iconst F zd_MO_cut_56 ?_
        refine vv_ti (show (0 : Int) = bZ false from rfl) ?_
        refine vv_zast (x := false) (ws' := [ceO 7 mo [.int (iI 0), .int (iI n), .int (iI ac), .ref tha, .int (iI (bZ gk)), .ref rea, .ref poa, .int (iI mn), .ref cha, .ref goa, .ref lea, .int (iI nv), .int (iI mm), .ref fia, .ref sea, .int (iI (bZ ck)), .ref sta, .ref lda, .ref vla, .int (iI (bZ gd)), .int (iI fl), .ref dia, .ref qua], ceZ G tha 25600 (fz (bP B u.toNat v.toNat false))]) F zd_MO_cut_57 1 rfl ⟨by omega, by omega⟩ (by decide) (by rw [fzU (by omega) ⟨by omega, by omega⟩]; first | done | rfl) ?_
        refine vv_aload_n F zd_MO_cut_58 rfl 0 rfl ?_
        refine vv_dup F zd_MO_cut_59 rfl ?_
        refine vv_get F zd_MO_cut_60 zf_MO 0 rfl rfl 2 (by decide) zw_758 rfl ?_
        refine vv_iconst F zd_MO_cut_63 ?_
        refine vv_isub F zd_MO_cut_64 ?_
        refine vv_put (v := .int (iI (ac - 1))) (ws' := [ceO 7 mo [.int (iI 0), .int (iI n), .int (iI (ac - 1)), .ref tha, .int (iI (bZ gk)), .ref rea, .ref poa, .int (iI mn), .ref cha, .ref goa, .ref lea, .int (iI nv), .int (iI mm), .ref fia, .ref sea, .int (iI (bZ ck)), .ref sta, .ref lda, .ref vla, .int (iI (bZ gd)), .int (iI fl), .ref dia, .ref qua], ceZ G tha 25600 (fz (bP B u.toNat v.toNat false))]) F zd_MO_cut_65 zf_MO zt_MO_ok zn_MO 0 rfl rfl 2 (by decide) zw_758 rfl rfl rfl (Nat.le_of_ble_eq_true rfl) rfl ?_
        refine vv_aload_n F zd_MO_cut_68 rfl 0 rfl ?_
        refine vv_iconst F zd_MO_cut_69 ?_
        refine vv_ti (show (0 : Int) = bZ false from rfl) ?_
        refine vv_put (v := .int (iI (bZ false))) (ws' := [ceO 7 mo [.int (iI 0), .int (iI n), .int (iI (ac - 1)), .ref tha, .int (iI (bZ false)), .ref rea, .ref poa, .int (iI mn), .ref cha, .ref goa, .ref lea, .int (iI nv), .int (iI mm), .ref fia, .ref sea, .int (iI (bZ ck)), .ref sta, .ref lda, .ref vla, .int (iI (bZ gd)), .int (iI fl), .ref dia, .ref qua], ceZ G tha 25600 (fz (bP B u.toNat v.toNat false))]) F zd_MO_cut_70 zf_MO zt_MO_ok zn_MO 0 rfl rfl 4 (by decide) zw_760 rfl (nb_bZ false) (fb_bZ false) (Nat.le_of_ble_eq_true rfl) rfl ?_
        refine vv_iconst F zd_MO_cut_73 ?_
        exact vv_zret (v := true) F zd_MO_cut_74 ⟨_, _, false, _, true, Or.inr (Or.inr ⟨⟨by omega, by omega⟩, ⟨by omega, by omega⟩, h3, rfl, rfl, rfl, rfl, rfl⟩), rfl, rfl⟩
      · have h3 : (B u.toNat v.toNat) = false := (bZ_0 _).mp h3
        refine vv_iconst F zd_MO_cut_45 ?_
        exact vv_zret (v := false) F zd_MO_cut_46 ⟨_, ac, gk, B, false, Or.inr (Or.inl ⟨⟨by omega, by omega⟩, ⟨by omega, by omega⟩, h3, rfl, rfl, rfl, rfl, rfl⟩), rfl, rfl⟩
    · have h2 : (decide (v < 0 ∨ n ≤ v)) = true := by cases hb9 : (decide (v < 0 ∨ n ≤ v)) with | true => rfl | false => exact absurd ((bZ_0 _).mpr hb9) h2
      have h2 := of_decide_eq_true h2
      refine vv_iconst F zd_MO_cut_17 ?_
      refine vv_goto (tgt := 22) F zd_MO_cut_18 rfl ?_
      refine vv_put (v := .int (iI 1)) (ws' := [ceO 7 mo [.int (iI 1), .int (iI n), .int (iI ac), .ref tha, .int (iI (bZ gk)), .ref rea, .ref poa, .int (iI mn), .ref cha, .ref goa, .ref lea, .int (iI nv), .int (iI mm), .ref fia, .ref sea, .int (iI (bZ ck)), .ref sta, .ref lda, .ref vla, .int (iI (bZ gd)), .int (iI fl), .ref dia, .ref qua], ceZ G tha 25600 (fz B)]) F zd_MO_cut_22 zf_MO zt_MO_ok zn_MO 0 rfl rfl 0 (by decide) zw_756 rfl rfl rfl (Nat.le_of_ble_eq_true rfl) rfl ?_
      refine vv_aload_n F zd_MO_cut_25 rfl 0 rfl ?_
      refine vv_get F zd_MO_cut_26 zf_MO 0 rfl rfl 0 (by decide) zw_756 rfl ?_
      refine vv_if_gt (tgt := 45) F zd_MO_cut_29 rfl (by decide) (fun _ => ?_) (fun h9 => absurd h9 (by decide))
      refine vv_iconst F zd_MO_cut_45 ?_
      exact vv_zret (v := false) F zd_MO_cut_46 ⟨_, ac, gk, B, false, Or.inl ⟨by unfold nno; omega, rfl, rfl, rfl, rfl, rfl⟩, rfl, rfl⟩

set_option maxHeartbeats 4000000 in
set_option maxRecDepth 100000 in
theorem cn_MO_parts (l : Launch) (G : vv_G) (mo : Nat) (th : Int) (n : Int) (ac : Int) (tha : Nat) (gk : Bool) (rea : Nat) (poa : Nat) (mn : Int) (cha : Nat) (goa : Nat) (lea : Nat) (nv : Int) (mm : Int) (fia : Nat) (sea : Nat) (ck : Bool) (sta : Nat) (lda : Nat) (vla : Nat) (gd : Bool) (fl : Int) (dia : Nat) (qua : Nat) (B : Nat → Nat → Bool) (H : Nat → Nat → Bool) (Nb : Nat → Int) (C : Nat → Int) (D : Nat → Nat → Bool) (Ls : Nat → Int) (hn : 1 ≤ n ∧ n ≤ 160) (hB : ∀ x y, B x y = true → x < n.toNat ∧ y < n.toNat) (hg : gk = true → mK B n.toNat H Nb Ls mn D C) :
    vv_C l zy_MO_parts zc_MO_parts 1 (some .int) { frames := 5, cells := 0, slots := 0, locals := 110 } G [.ref mo] [ceO 7 mo [.int (iI th), .int (iI n), .int (iI ac), .ref tha, .int (iI (bZ gk)), .ref rea, .ref poa, .int (iI mn), .ref cha, .ref goa, .ref lea, .int (iI nv), .int (iI mm), .ref fia, .ref sea, .int (iI (bZ ck)), .ref sta, .ref lda, .ref vla, .int (iI (bZ gd)), .int (iI fl), .ref dia, .ref qua], ceZ G tha 25600 (fz B), ceZ G rea 25600 (fz H), ceI G poa 160 Nb, ceI G cha 160 C, ceZ G goa 25600 (fz D), ceI G lea 160 Ls] (fun v7 w7 => ∃ (th2 : Int) (gk2 : Bool) (H2 : Nat → Nat → Bool) (Nb2 : Nat → Int) (mn2 : Int) (C2 : Nat → Int) (D2 : Nat → Nat → Bool) (Ls2 : Nat → Int) (z : Int), (gk2 = true → mK B n.toNat H2 Nb2 Ls2 mn2 D2 C2) ∧ (th2 = 0 ∧ mK B n.toNat H2 Nb2 Ls2 mn2 D2 C2 ∧ z = mn2) ∧ v7 = some (.int (iI z)) ∧ w7 = [ceO 7 mo [.int (iI th2), .int (iI n), .int (iI ac), .ref tha, .int (iI (bZ gk2)), .ref rea, .ref poa, .int (iI mn2), .ref cha, .ref goa, .ref lea, .int (iI nv), .int (iI mm), .ref fia, .ref sea, .int (iI (bZ ck)), .ref sta, .ref lda, .ref vla, .int (iI (bZ gd)), .int (iI fl), .ref dia, .ref qua], ceZ G tha 25600 (fz B), ceZ G rea 25600 (fz H2), ceI G poa 160 Nb2, ceI G cha 160 C2, ceZ G goa 25600 (fz D2), ceI G lea 160 Ls2]) := by
  refine vv_met (by decide +kernel) (Nat.le_of_ble_eq_true rfl) rfl ?_
  intro p e s m args below meth c A F
  refine vv_aload_n F zd_MO_parts_0 rfl 0 rfl ?_
  refine vv_iconst F zd_MO_parts_1 ?_
  refine vv_put (v := .int (iI 0)) (ws' := [ceO 7 mo [.int (iI 0), .int (iI n), .int (iI ac), .ref tha, .int (iI (bZ gk)), .ref rea, .ref poa, .int (iI mn), .ref cha, .ref goa, .ref lea, .int (iI nv), .int (iI mm), .ref fia, .ref sea, .int (iI (bZ ck)), .ref sta, .ref lda, .ref vla, .int (iI (bZ gd)), .int (iI fl), .ref dia, .ref qua], ceZ G tha 25600 (fz B), ceZ G rea 25600 (fz H), ceI G poa 160 Nb, ceI G cha 160 C, ceZ G goa 25600 (fz D), ceI G lea 160 Ls]) F zd_MO_parts_2 zf_MO zt_MO_ok zn_MO 0 rfl rfl 0 (by decide) zw_756 rfl rfl rfl (Nat.le_of_ble_eq_true rfl) rfl ?_
  refine vv_aload_n F zd_MO_parts_5 rfl 0 rfl ?_
  refine vv_callV (q0 := 0) (As := []) (rest := []) (wr := []) F (cn_MO_know l G mo 0 n ac tha gk rea poa mn cha goa lea nv mm fia sea ck sta lda vla gd fl dia qua B H Nb C D Ls ⟨by omega, by omega⟩ hB hg) zm_MO_know ⟨zw_856, zs_MO_know⟩ zw_854 zd_MO_parts_6 ⟨by decide, by decide⟩ ⟨by decide, by decide⟩ [0, 1, 2, 3, 4, 5, 6] [] rfl rfl ⟨rfl, rfl, by decide⟩ rfl rfl rfl rfl (Nat.le_of_ble_eq_true rfl) (fun v9 w9 hp9 => ?_)
  obtain ⟨H2_1, Nb2_2, mn2_3, C2_4, D2_5, Ls2_6, hf1_0, rfl, rfl⟩ := hp9
  refine vv_thenE (ws' := [ceO 7 mo [.int (iI 0), .int (iI n), .int (iI ac), .ref tha, .int (iI (bZ true)), .ref rea, .ref poa, .int (iI mn2_3), .ref cha, .ref goa, .ref lea, .int (iI nv), .int (iI mm), .ref fia, .ref sea, .int (iI (bZ ck)), .ref sta, .ref lda, .ref vla, .int (iI (bZ gd)), .int (iI fl), .ref dia, .ref qua], ceZ G tha 25600 (fz B), ceZ G rea 25600 (fz H2_1), ceI G poa 160 Nb2_2, ceI G cha 160 C2_4, ceZ G goa 25600 (fz D2_5), ceI G lea 160 Ls2_6]) (st' := []) (kc' := 0) (ks' := 0) [0, 1, 2, 3, 4, 5, 6] rfl rfl rfl ?_
  refine vv_aload_n F zd_MO_parts_9 rfl 0 rfl ?_
  refine vv_get F zd_MO_parts_10 zf_MO 0 rfl rfl 7 (by decide) zw_763 rfl ?_
  exact vv_iret F zd_MO_parts_13 ⟨_, true, _, _, _, _, _, _, _, fun _ => hf1_0, ⟨rfl, hf1_0, rfl⟩, rfl, rfl⟩

set_option maxHeartbeats 4000000 in
set_option maxRecDepth 100000 in
theorem cn_MO_part (l : Launch) (G : vv_G) (mo : Nat) (th : Int) (n : Int) (ac : Int) (tha : Nat) (gk : Bool) (rea : Nat) (poa : Nat) (mn : Int) (cha : Nat) (goa : Nat) (lea : Nat) (nv : Int) (mm : Int) (fia : Nat) (sea : Nat) (ck : Bool) (sta : Nat) (lda : Nat) (vla : Nat) (gd : Bool) (fl : Int) (dia : Nat) (qua : Nat) (B : Nat → Nat → Bool) (H : Nat → Nat → Bool) (Nb : Nat → Int) (C : Nat → Int) (D : Nat → Nat → Bool) (Ls : Nat → Int) (u : Int) (hn : 1 ≤ n ∧ n ≤ 160) (hB : ∀ x y, B x y = true → x < n.toNat ∧ y < n.toNat) (hg : gk = true → mK B n.toNat H Nb Ls mn D C) (hu : rg u) :
    vv_C l zy_MO_part zc_MO_part 2 (some .int) { frames := 5, cells := 0, slots := 0, locals := 110 } G [.ref mo, .int (iI u)] [ceO 7 mo [.int (iI th), .int (iI n), .int (iI ac), .ref tha, .int (iI (bZ gk)), .ref rea, .ref poa, .int (iI mn), .ref cha, .ref goa, .ref lea, .int (iI nv), .int (iI mm), .ref fia, .ref sea, .int (iI (bZ ck)), .ref sta, .ref lda, .ref vla, .int (iI (bZ gd)), .int (iI fl), .ref dia, .ref qua], ceZ G tha 25600 (fz B), ceZ G rea 25600 (fz H), ceI G poa 160 Nb, ceI G cha 160 C, ceZ G goa 25600 (fz D), ceI G lea 160 Ls] (fun v7 w7 => ∃ (th2 : Int) (gk2 : Bool) (H2 : Nat → Nat → Bool) (Nb2 : Nat → Int) (mn2 : Int) (C2 : Nat → Int) (D2 : Nat → Nat → Bool) (Ls2 : Nat → Int) (z : Int), (gk2 = true → mK B n.toNat H2 Nb2 Ls2 mn2 D2 C2) ∧ ((nno n u ∧ th2 = 1 ∧ z = 0) ∨ ((0 ≤ u ∧ u < n) ∧ th2 = 0 ∧ mK B n.toNat H2 Nb2 Ls2 mn2 D2 C2 ∧ z = Nb2 u.toNat)) ∧ v7 = some (.int (iI z)) ∧ w7 = [ceO 7 mo [.int (iI th2), .int (iI n), .int (iI ac), .ref tha, .int (iI (bZ gk2)), .ref rea, .ref poa, .int (iI mn2), .ref cha, .ref goa, .ref lea, .int (iI nv), .int (iI mm), .ref fia, .ref sea, .int (iI (bZ ck)), .ref sta, .ref lda, .ref vla, .int (iI (bZ gd)), .int (iI fl), .ref dia, .ref qua], ceZ G tha 25600 (fz B), ceZ G rea 25600 (fz H2), ceI G poa 160 Nb2, ceI G cha 160 C2, ceZ G goa 25600 (fz D2), ceI G lea 160 Ls2]) := by
  refine vv_met (by decide +kernel) (Nat.le_of_ble_eq_true rfl) rfl ?_
  intro p e s m args below meth c A F
  refine vv_aload_n F zd_MO_part_0 rfl 0 rfl ?_
  refine vv_aload_n F zd_MO_part_1 rfl 0 rfl ?_
  refine vv_iload_n F zd_MO_part_2 rfl 1 rfl ?_
  refine vv_callV (q0 := 0) (As := [.int (iI u)]) (rest := [.ref mo]) (wr := [ceZ G tha 25600 (fz B), ceZ G rea 25600 (fz H), ceI G poa 160 Nb, ceI G cha 160 C, ceZ G goa 25600 (fz D), ceI G lea 160 Ls]) F (cn_MO_noNode l G mo th n ac tha gk rea poa mn cha goa lea nv mm fia sea ck sta lda vla gd fl dia qua u hu ⟨by omega, by omega⟩) zm_MO_noNode ⟨zw_841, zs_MO_noNode⟩ zw_839 zd_MO_part_3 ⟨by decide, by decide⟩ ⟨by decide, by decide⟩ [0] [1, 2, 3, 4, 5, 6] rfl rfl ⟨rfl, rfl, by decide⟩ rfl rfl rfl rfl (Nat.le_of_ble_eq_true rfl) (vv_then (ws' := [ceO 7 mo [.int (iI th), .int (iI n), .int (iI ac), .ref tha, .int (iI (bZ gk)), .ref rea, .ref poa, .int (iI mn), .ref cha, .ref goa, .ref lea, .int (iI nv), .int (iI mm), .ref fia, .ref sea, .int (iI (bZ ck)), .ref sta, .ref lda, .ref vla, .int (iI (bZ gd)), .int (iI fl), .ref dia, .ref qua], ceZ G tha 25600 (fz B), ceZ G rea 25600 (fz H), ceI G poa 160 Nb, ceI G cha 160 C, ceZ G goa 25600 (fz D), ceI G lea 160 Ls]) (st' := [.int (iI (bZ (decide (u < 0 ∨ n ≤ u)))), .ref mo]) [6, 0, 1, 2, 3, 4, 5] rfl rfl rfl ?_)
  refine vv_if_eq (tgt := 13) F zd_MO_part_6 rfl (bZ_rg _) (fun h1 => ?_) (fun h1 => ?_)
  · have h1 : (decide (u < 0 ∨ n ≤ u)) = false := (bZ_0 _).mp h1
    have h1 := of_decide_eq_false h1
    refine vv_iconst F zd_MO_part_13 ?_
    refine vv_put (v := .int (iI 0)) (ws' := [ceO 7 mo [.int (iI 0), .int (iI n), .int (iI ac), .ref tha, .int (iI (bZ gk)), .ref rea, .ref poa, .int (iI mn), .ref cha, .ref goa, .ref lea, .int (iI nv), .int (iI mm), .ref fia, .ref sea, .int (iI (bZ ck)), .ref sta, .ref lda, .ref vla, .int (iI (bZ gd)), .int (iI fl), .ref dia, .ref qua], ceZ G tha 25600 (fz B), ceZ G rea 25600 (fz H), ceI G poa 160 Nb, ceI G cha 160 C, ceZ G goa 25600 (fz D), ceI G lea 160 Ls]) F zd_MO_part_14 zf_MO zt_MO_ok zn_MO 0 rfl rfl 0 (by decide) zw_756 rfl rfl rfl (Nat.le_of_ble_eq_true rfl) rfl ?_
    refine vv_aload_n F zd_MO_part_17 rfl 0 rfl ?_
    refine vv_get F zd_MO_part_18 zf_MO 0 rfl rfl 0 (by decide) zw_756 rfl ?_
    refine vv_if_le (tgt := 26) F zd_MO_part_21 rfl (by decide) (fun _ => ?_) (fun h9 => absurd h9 (by decide))
    refine vv_aload_n F zd_MO_part_26 rfl 0 rfl ?_
    refine vv_callV (q0 := 0) (As := []) (rest := []) (wr := []) F (cn_MO_know l G mo 0 n ac tha gk rea poa mn cha goa lea nv mm fia sea ck sta lda vla gd fl dia qua B H Nb C D Ls ⟨by omega, by omega⟩ hB hg) zm_MO_know ⟨zw_856, zs_MO_know⟩ zw_854 zd_MO_part_27 ⟨by decide, by decide⟩ ⟨by decide, by decide⟩ [0, 1, 2, 3, 4, 5, 6] [] rfl rfl ⟨rfl, rfl, by decide⟩ rfl rfl rfl rfl (Nat.le_of_ble_eq_true rfl) (fun v9 w9 hp9 => ?_)
    obtain ⟨H2_1, Nb2_2, mn2_3, C2_4, D2_5, Ls2_6, hf1_0, rfl, rfl⟩ := hp9
    refine vv_thenE (ws' := [ceO 7 mo [.int (iI 0), .int (iI n), .int (iI ac), .ref tha, .int (iI (bZ true)), .ref rea, .ref poa, .int (iI mn2_3), .ref cha, .ref goa, .ref lea, .int (iI nv), .int (iI mm), .ref fia, .ref sea, .int (iI (bZ ck)), .ref sta, .ref lda, .ref vla, .int (iI (bZ gd)), .int (iI fl), .ref dia, .ref qua], ceZ G tha 25600 (fz B), ceZ G rea 25600 (fz H2_1), ceI G poa 160 Nb2_2, ceI G cha 160 C2_4, ceZ G goa 25600 (fz D2_5), ceI G lea 160 Ls2_6]) (st' := []) (kc' := 0) (ks' := 0) [0, 1, 2, 3, 4, 5, 6] rfl rfl rfl ?_
    refine vv_aload_n F zd_MO_part_30 rfl 0 rfl ?_
    refine vv_get F zd_MO_part_31 zf_MO 0 rfl rfl 6 (by decide) zw_762 rfl ?_
    refine vv_iload_n F zd_MO_part_34 rfl 1 rfl ?_
    refine vv_iald F zd_MO_part_35 3 rfl ⟨by omega, by omega⟩ (by decide) ?_
    exact vv_iret F zd_MO_part_36 ⟨_, true, _, _, _, _, _, _, _, fun _ => hf1_0, Or.inr ⟨⟨by omega, by omega⟩, rfl, hf1_0, rfl⟩, rfl, rfl⟩
  · have h1 : (decide (u < 0 ∨ n ≤ u)) = true := by cases hb9 : (decide (u < 0 ∨ n ≤ u)) with | true => rfl | false => exact absurd ((bZ_0 _).mpr hb9) h1
    have h1 := of_decide_eq_true h1
    refine vv_iconst F zd_MO_part_9 ?_
    refine vv_goto (tgt := 14) F zd_MO_part_10 rfl ?_
    refine vv_put (v := .int (iI 1)) (ws' := [ceO 7 mo [.int (iI 1), .int (iI n), .int (iI ac), .ref tha, .int (iI (bZ gk)), .ref rea, .ref poa, .int (iI mn), .ref cha, .ref goa, .ref lea, .int (iI nv), .int (iI mm), .ref fia, .ref sea, .int (iI (bZ ck)), .ref sta, .ref lda, .ref vla, .int (iI (bZ gd)), .int (iI fl), .ref dia, .ref qua], ceZ G tha 25600 (fz B), ceZ G rea 25600 (fz H), ceI G poa 160 Nb, ceI G cha 160 C, ceZ G goa 25600 (fz D), ceI G lea 160 Ls]) F zd_MO_part_14 zf_MO zt_MO_ok zn_MO 0 rfl rfl 0 (by decide) zw_756 rfl rfl rfl (Nat.le_of_ble_eq_true rfl) rfl ?_
    refine vv_aload_n F zd_MO_part_17 rfl 0 rfl ?_
    refine vv_get F zd_MO_part_18 zf_MO 0 rfl rfl 0 (by decide) zw_756 rfl ?_
    refine vv_if_le (tgt := 26) F zd_MO_part_21 rfl (by decide) (fun h9 => absurd h9 (by decide)) (fun _ => ?_)
    refine vv_iconst F zd_MO_part_24 ?_
    exact vv_iret F zd_MO_part_25 ⟨_, gk, H, Nb, mn, C, D, Ls, _, hg, Or.inl ⟨by unfold nno; omega, rfl, rfl⟩, rfl, rfl⟩

set_option maxHeartbeats 4000000 in
set_option maxRecDepth 100000 in
theorem cn_MO_reaches (l : Launch) (G : vv_G) (mo : Nat) (th : Int) (n : Int) (ac : Int) (tha : Nat) (gk : Bool) (rea : Nat) (poa : Nat) (mn : Int) (cha : Nat) (goa : Nat) (lea : Nat) (nv : Int) (mm : Int) (fia : Nat) (sea : Nat) (ck : Bool) (sta : Nat) (lda : Nat) (vla : Nat) (gd : Bool) (fl : Int) (dia : Nat) (qua : Nat) (B : Nat → Nat → Bool) (H : Nat → Nat → Bool) (Nb : Nat → Int) (C : Nat → Int) (D : Nat → Nat → Bool) (Ls : Nat → Int) (u : Int) (v : Int) (hn : 1 ≤ n ∧ n ≤ 160) (hB : ∀ x y, B x y = true → x < n.toNat ∧ y < n.toNat) (hg : gk = true → mK B n.toNat H Nb Ls mn D C) (hu : rg u) (hv : rg v) :
    vv_C l zy_MO_reaches zc_MO_reaches 3 (some .boolean) { frames := 5, cells := 0, slots := 0, locals := 110 } G [.ref mo, .int (iI u), .int (iI v)] [ceO 7 mo [.int (iI th), .int (iI n), .int (iI ac), .ref tha, .int (iI (bZ gk)), .ref rea, .ref poa, .int (iI mn), .ref cha, .ref goa, .ref lea, .int (iI nv), .int (iI mm), .ref fia, .ref sea, .int (iI (bZ ck)), .ref sta, .ref lda, .ref vla, .int (iI (bZ gd)), .int (iI fl), .ref dia, .ref qua], ceZ G tha 25600 (fz B), ceZ G rea 25600 (fz H), ceI G poa 160 Nb, ceI G cha 160 C, ceZ G goa 25600 (fz D), ceI G lea 160 Ls] (fun v7 w7 => ∃ (th2 : Int) (gk2 : Bool) (H2 : Nat → Nat → Bool) (Nb2 : Nat → Int) (mn2 : Int) (C2 : Nat → Int) (D2 : Nat → Nat → Bool) (Ls2 : Nat → Int) (z : Bool), (gk2 = true → mK B n.toNat H2 Nb2 Ls2 mn2 D2 C2) ∧ (((nno n u ∨ nno n v) ∧ th2 = 1 ∧ z = false) ∨ ((0 ≤ u ∧ u < n) ∧ (0 ≤ v ∧ v < n) ∧ th2 = 0 ∧ mK B n.toNat H2 Nb2 Ls2 mn2 D2 C2 ∧ z = H2 u.toNat v.toNat)) ∧ v7 = some (.int (iI (bZ z))) ∧ w7 = [ceO 7 mo [.int (iI th2), .int (iI n), .int (iI ac), .ref tha, .int (iI (bZ gk2)), .ref rea, .ref poa, .int (iI mn2), .ref cha, .ref goa, .ref lea, .int (iI nv), .int (iI mm), .ref fia, .ref sea, .int (iI (bZ ck)), .ref sta, .ref lda, .ref vla, .int (iI (bZ gd)), .int (iI fl), .ref dia, .ref qua], ceZ G tha 25600 (fz B), ceZ G rea 25600 (fz H2), ceI G poa 160 Nb2, ceI G cha 160 C2, ceZ G goa 25600 (fz D2), ceI G lea 160 Ls2]) := by
  refine vv_met (by decide +kernel) (Nat.le_of_ble_eq_true rfl) rfl ?_
  intro p e s m args below meth c A F
  refine vv_aload_n F zd_MO_reaches_0 rfl 0 rfl ?_
  refine vv_aload_n F zd_MO_reaches_1 rfl 0 rfl ?_
  refine vv_iload_n F zd_MO_reaches_2 rfl 1 rfl ?_
  refine vv_callV (q0 := 0) (As := [.int (iI u)]) (rest := [.ref mo]) (wr := [ceZ G tha 25600 (fz B), ceZ G rea 25600 (fz H), ceI G poa 160 Nb, ceI G cha 160 C, ceZ G goa 25600 (fz D), ceI G lea 160 Ls]) F (cn_MO_noNode l G mo th n ac tha gk rea poa mn cha goa lea nv mm fia sea ck sta lda vla gd fl dia qua u hu ⟨by omega, by omega⟩) zm_MO_noNode ⟨zw_841, zs_MO_noNode⟩ zw_839 zd_MO_reaches_3 ⟨by decide, by decide⟩ ⟨by decide, by decide⟩ [0] [1, 2, 3, 4, 5, 6] rfl rfl ⟨rfl, rfl, by decide⟩ rfl rfl rfl rfl (Nat.le_of_ble_eq_true rfl) (vv_then (ws' := [ceO 7 mo [.int (iI th), .int (iI n), .int (iI ac), .ref tha, .int (iI (bZ gk)), .ref rea, .ref poa, .int (iI mn), .ref cha, .ref goa, .ref lea, .int (iI nv), .int (iI mm), .ref fia, .ref sea, .int (iI (bZ ck)), .ref sta, .ref lda, .ref vla, .int (iI (bZ gd)), .int (iI fl), .ref dia, .ref qua], ceZ G tha 25600 (fz B), ceZ G rea 25600 (fz H), ceI G poa 160 Nb, ceI G cha 160 C, ceZ G goa 25600 (fz D), ceI G lea 160 Ls]) (st' := [.int (iI (bZ (decide (u < 0 ∨ n ≤ u)))), .ref mo]) [6, 0, 1, 2, 3, 4, 5] rfl rfl rfl ?_)
  refine vv_if_ne (tgt := 17) F zd_MO_reaches_6 rfl (bZ_rg _) (fun h1 => ?_) (fun h1 => ?_)
  · have h1 : (decide (u < 0 ∨ n ≤ u)) = true := by cases hb9 : (decide (u < 0 ∨ n ≤ u)) with | true => rfl | false => exact absurd ((bZ_0 _).mpr hb9) h1
    have h1 := of_decide_eq_true h1
    refine vv_iconst F zd_MO_reaches_17 ?_
    refine vv_goto (tgt := 22) F zd_MO_reaches_18 rfl ?_
    refine vv_put (v := .int (iI 1)) (ws' := [ceO 7 mo [.int (iI 1), .int (iI n), .int (iI ac), .ref tha, .int (iI (bZ gk)), .ref rea, .ref poa, .int (iI mn), .ref cha, .ref goa, .ref lea, .int (iI nv), .int (iI mm), .ref fia, .ref sea, .int (iI (bZ ck)), .ref sta, .ref lda, .ref vla, .int (iI (bZ gd)), .int (iI fl), .ref dia, .ref qua], ceZ G tha 25600 (fz B), ceZ G rea 25600 (fz H), ceI G poa 160 Nb, ceI G cha 160 C, ceZ G goa 25600 (fz D), ceI G lea 160 Ls]) F zd_MO_reaches_22 zf_MO zt_MO_ok zn_MO 0 rfl rfl 0 (by decide) zw_756 rfl rfl rfl (Nat.le_of_ble_eq_true rfl) rfl ?_
    refine vv_aload_n F zd_MO_reaches_25 rfl 0 rfl ?_
    refine vv_get F zd_MO_reaches_26 zf_MO 0 rfl rfl 0 (by decide) zw_756 rfl ?_
    refine vv_if_le (tgt := 34) F zd_MO_reaches_29 rfl (by decide) (fun h9 => absurd h9 (by decide)) (fun _ => ?_)
    refine vv_iconst F zd_MO_reaches_32 ?_
    exact vv_zret (v := false) F zd_MO_reaches_33 ⟨_, gk, H, Nb, mn, C, D, Ls, false, hg, Or.inl ⟨by unfold nno; omega, rfl, rfl⟩, rfl, rfl⟩
  · have h1 : (decide (u < 0 ∨ n ≤ u)) = false := (bZ_0 _).mp h1
    have h1 := of_decide_eq_false h1
    refine vv_aload_n F zd_MO_reaches_9 rfl 0 rfl ?_
    refine vv_iload_n F zd_MO_reaches_10 rfl 2 rfl ?_
    refine vv_callV (q0 := 0) (As := [.int (iI v)]) (rest := [.ref mo]) (wr := [ceZ G tha 25600 (fz B), ceZ G rea 25600 (fz H), ceI G poa 160 Nb, ceI G cha 160 C, ceZ G goa 25600 (fz D), ceI G lea 160 Ls]) F (cn_MO_noNode l G mo th n ac tha gk rea poa mn cha goa lea nv mm fia sea ck sta lda vla gd fl dia qua v hv ⟨by omega, by omega⟩) zm_MO_noNode ⟨zw_841, zs_MO_noNode⟩ zw_839 zd_MO_reaches_11 ⟨by decide, by decide⟩ ⟨by decide, by decide⟩ [0] [1, 2, 3, 4, 5, 6] rfl rfl ⟨rfl, rfl, by decide⟩ rfl rfl rfl rfl (Nat.le_of_ble_eq_true rfl) (vv_then (ws' := [ceO 7 mo [.int (iI th), .int (iI n), .int (iI ac), .ref tha, .int (iI (bZ gk)), .ref rea, .ref poa, .int (iI mn), .ref cha, .ref goa, .ref lea, .int (iI nv), .int (iI mm), .ref fia, .ref sea, .int (iI (bZ ck)), .ref sta, .ref lda, .ref vla, .int (iI (bZ gd)), .int (iI fl), .ref dia, .ref qua], ceZ G tha 25600 (fz B), ceZ G rea 25600 (fz H), ceI G poa 160 Nb, ceI G cha 160 C, ceZ G goa 25600 (fz D), ceI G lea 160 Ls]) (st' := [.int (iI (bZ (decide (v < 0 ∨ n ≤ v)))), .ref mo]) [6, 0, 1, 2, 3, 4, 5] rfl rfl rfl ?_)
    refine vv_if_eq (tgt := 21) F zd_MO_reaches_14 rfl (bZ_rg _) (fun h2 => ?_) (fun h2 => ?_)
    · have h2 : (decide (v < 0 ∨ n ≤ v)) = false := (bZ_0 _).mp h2
      have h2 := of_decide_eq_false h2
      refine vv_iconst F zd_MO_reaches_21 ?_
      refine vv_put (v := .int (iI 0)) (ws' := [ceO 7 mo [.int (iI 0), .int (iI n), .int (iI ac), .ref tha, .int (iI (bZ gk)), .ref rea, .ref poa, .int (iI mn), .ref cha, .ref goa, .ref lea, .int (iI nv), .int (iI mm), .ref fia, .ref sea, .int (iI (bZ ck)), .ref sta, .ref lda, .ref vla, .int (iI (bZ gd)), .int (iI fl), .ref dia, .ref qua], ceZ G tha 25600 (fz B), ceZ G rea 25600 (fz H), ceI G poa 160 Nb, ceI G cha 160 C, ceZ G goa 25600 (fz D), ceI G lea 160 Ls]) F zd_MO_reaches_22 zf_MO zt_MO_ok zn_MO 0 rfl rfl 0 (by decide) zw_756 rfl rfl rfl (Nat.le_of_ble_eq_true rfl) rfl ?_
      refine vv_aload_n F zd_MO_reaches_25 rfl 0 rfl ?_
      refine vv_get F zd_MO_reaches_26 zf_MO 0 rfl rfl 0 (by decide) zw_756 rfl ?_
      refine vv_if_le (tgt := 34) F zd_MO_reaches_29 rfl (by decide) (fun _ => ?_) (fun h9 => absurd h9 (by decide))
      refine vv_aload_n F zd_MO_reaches_34 rfl 0 rfl ?_
      refine vv_callV (q0 := 0) (As := []) (rest := []) (wr := []) F (cn_MO_know l G mo 0 n ac tha gk rea poa mn cha goa lea nv mm fia sea ck sta lda vla gd fl dia qua B H Nb C D Ls ⟨by omega, by omega⟩ hB hg) zm_MO_know ⟨zw_856, zs_MO_know⟩ zw_854 zd_MO_reaches_35 ⟨by decide, by decide⟩ ⟨by decide, by decide⟩ [0, 1, 2, 3, 4, 5, 6] [] rfl rfl ⟨rfl, rfl, by decide⟩ rfl rfl rfl rfl (Nat.le_of_ble_eq_true rfl) (fun v9 w9 hp9 => ?_)
      obtain ⟨H2_1, Nb2_2, mn2_3, C2_4, D2_5, Ls2_6, hf1_0, rfl, rfl⟩ := hp9
      refine vv_thenE (ws' := [ceO 7 mo [.int (iI 0), .int (iI n), .int (iI ac), .ref tha, .int (iI (bZ true)), .ref rea, .ref poa, .int (iI mn2_3), .ref cha, .ref goa, .ref lea, .int (iI nv), .int (iI mm), .ref fia, .ref sea, .int (iI (bZ ck)), .ref sta, .ref lda, .ref vla, .int (iI (bZ gd)), .int (iI fl), .ref dia, .ref qua], ceZ G tha 25600 (fz B), ceZ G rea 25600 (fz H2_1), ceI G poa 160 Nb2_2, ceI G cha 160 C2_4, ceZ G goa 25600 (fz D2_5), ceI G lea 160 Ls2_6]) (st' := []) (kc' := 0) (ks' := 0) [0, 1, 2, 3, 4, 5, 6] rfl rfl rfl ?_
      refine vv_aload_n F zd_MO_reaches_38 rfl 0 rfl ?_
      refine vv_get F zd_MO_reaches_39 zf_MO 0 rfl rfl 5 (by decide) zw_761 rfl ?_
      refine vv_iload_n F zd_MO_reaches_42 rfl 1 rfl ?_
      refine vv_iload_n F zd_MO_reaches_43 rfl 2 rfl ?_
      refine vv_callS (As := [.int (iI u), .int (iI v)]) (rest := [.ref rea]) (wr := [ceO 7 mo [.int (iI 0), .int (iI n), .int (iI ac), .ref tha, .int (iI (bZ true)), .ref rea, .ref poa, .int (iI mn2_3), .ref cha, .ref goa, .ref lea, .int (iI nv), .int (iI mm), .ref fia, .ref sea, .int (iI (bZ ck)), .ref sta, .ref lda, .ref vla, .int (iI (bZ gd)), .int (iI fl), .ref dia, .ref qua], ceZ G tha 25600 (fz B), ceZ G rea 25600 (fz H2_1), ceI G poa 160 Nb2_2, ceI G cha 160 C2_4, ceZ G goa 25600 (fz D2_5), ceI G lea 160 Ls2_6]) F (cn_MO_cell l G u v) zm_MO_cell zw_844 zw_843 zd_MO_reaches_44 ⟨by decide, by decide⟩ ⟨by decide, by decide⟩ [] [0, 1, 2, 3, 4, 5, 6] rfl rfl ⟨rfl, rfl, by decide⟩ rfl rfl (Nat.le_of_ble_eq_true rfl) (vv_then (ws' := [ceO 7 mo [.int (iI 0), .int (iI n), .int (iI ac), .ref tha, .int (iI (bZ true)), .ref rea, .ref poa, .int (iI mn2_3), .ref cha, .ref goa, .ref lea, .int (iI nv), .int (iI mm), .ref fia, .ref sea, .int (iI (bZ ck)), .ref sta, .ref lda, .ref vla, .int (iI (bZ gd)), .int (iI fl), .ref dia, .ref qua], ceZ G tha 25600 (fz B), ceZ G rea 25600 (fz H2_1), ceI G poa 160 Nb2_2, ceI G cha 160 C2_4, ceZ G goa 25600 (fz D2_5), ceI G lea 160 Ls2_6]) (st' := [.int (iI (160 * u + v)), .ref rea]) [0, 1, 2, 3, 4, 5, 6] rfl rfl rfl ?_)
      refine vv_zald F zd_MO_reaches_47 2 rfl ⟨by omega, by omega⟩ (by decide) ?_
      refine vv_ti (congrArg bZ (fzI (B := H2_1) (u := u) (v := v) (by omega) ⟨by omega, by omega⟩)) ?_
      exact vv_zret F zd_MO_reaches_48 ⟨_, true, _, _, _, _, _, _, _, fun _ => hf1_0, Or.inr ⟨⟨by omega, by omega⟩, ⟨by omega, by omega⟩, rfl, hf1_0, rfl⟩, rfl, rfl⟩
    · have h2 : (decide (v < 0 ∨ n ≤ v)) = true := by cases hb9 : (decide (v < 0 ∨ n ≤ v)) with | true => rfl | false => exact absurd ((bZ_0 _).mpr hb9) h2
      have h2 := of_decide_eq_true h2
      refine vv_iconst F zd_MO_reaches_17 ?_
      refine vv_goto (tgt := 22) F zd_MO_reaches_18 rfl ?_
      refine vv_put (v := .int (iI 1)) (ws' := [ceO 7 mo [.int (iI 1), .int (iI n), .int (iI ac), .ref tha, .int (iI (bZ gk)), .ref rea, .ref poa, .int (iI mn), .ref cha, .ref goa, .ref lea, .int (iI nv), .int (iI mm), .ref fia, .ref sea, .int (iI (bZ ck)), .ref sta, .ref lda, .ref vla, .int (iI (bZ gd)), .int (iI fl), .ref dia, .ref qua], ceZ G tha 25600 (fz B), ceZ G rea 25600 (fz H), ceI G poa 160 Nb, ceI G cha 160 C, ceZ G goa 25600 (fz D), ceI G lea 160 Ls]) F zd_MO_reaches_22 zf_MO zt_MO_ok zn_MO 0 rfl rfl 0 (by decide) zw_756 rfl rfl rfl (Nat.le_of_ble_eq_true rfl) rfl ?_
      refine vv_aload_n F zd_MO_reaches_25 rfl 0 rfl ?_
      refine vv_get F zd_MO_reaches_26 zf_MO 0 rfl rfl 0 (by decide) zw_756 rfl ?_
      refine vv_if_le (tgt := 34) F zd_MO_reaches_29 rfl (by decide) (fun h9 => absurd h9 (by decide)) (fun _ => ?_)
      refine vv_iconst F zd_MO_reaches_32 ?_
      exact vv_zret (v := false) F zd_MO_reaches_33 ⟨_, gk, H, Nb, mn, C, D, Ls, false, hg, Or.inl ⟨by unfold nno; omega, rfl, rfl⟩, rfl, rfl⟩

/-- whom the reference counts -/
def mcq (H : Nat → Nat → Bool) (u v : Int) (b : Nat) : Bool := if v = 0 then H u.toNat b else H b u.toNat

set_option maxHeartbeats 4000000 in
set_option maxRecDepth 100000 in
theorem lp_MO_co {p : Program} {l : Launch} {e : Env} {s : State} {m : MethodId} {args : Array Value} {below : List Frame} {meth : Method} {c : Code} {A : Nat → Prop} {Q : State → Prop} {G : vv_G} (F : vv_F p s m args meth c zc_MO_counted "ClauseGraphModel" "counted" (some .int) G A 5) (mo : Nat) (th : Int) (n : Int) (ac : Int) (tha : Nat) (gk : Bool) (rea : Nat) (poa : Nat) (mn : Int) (cha : Nat) (goa : Nat) (lea : Nat) (nv : Int) (mm : Int) (fia : Nat) (sea : Nat) (ck : Bool) (sta : Nat) (lda : Nat) (vla : Nat) (gd : Bool) (fl : Int) (dia : Nat) (qua : Nat) (B : Nat → Nat → Bool) (H : Nat → Nat → Bool) (Nb : Nat → Int) (C : Nat → Int) (D : Nat → Nat → Bool) (Ls : Nat → Int) (u : Int) (v : Int) (hn : 1 ≤ n ∧ n ≤ 160) (hu : 0 ≤ u ∧ u < n) (hv : rg v)
    (k : ∀ (z : Int), (0 ≤ n ∧ z = (cN (mcq H u v) n.toNat : Int)) → vv_V p l e { frames := 5, cells := 0, slots := 0, locals := 110 } s m args below meth c G A 5 Q 98 [(0, .ref mo), (1, .int (iI u)), (2, .int (iI v)), (3, .int (iI z)), (4, .int (iI n))] [] [ceO 7 mo [.int (iI th), .int (iI n), .int (iI ac), .ref tha, .int (iI (bZ gk)), .ref rea, .ref poa, .int (iI mn), .ref cha, .ref goa, .ref lea, .int (iI nv), .int (iI mm), .ref fia, .ref sea, .int (iI (bZ ck)), .ref sta, .ref lda, .ref vla, .int (iI (bZ gd)), .int (iI fl), .ref dia, .ref qua], ceZ G tha 25600 (fz B), ceZ G rea 25600 (fz H), ceI G poa 160 Nb, ceI G cha 160 C, ceZ G goa 25600 (fz D), ceI G lea 160 Ls] 0 0)  :
    ∀ (d : Nat) (i : Int) (z : Int), i + (d : Int) = n → (0 ≤ i ∧ z = (cN (mcq H u v) i.toNat : Int)) → vv_V p l e { frames := 5, cells := 0, slots := 0, locals := 110 } s m args below meth c G A 5 Q 48 [(0, .ref mo), (1, .int (iI u)), (2, .int (iI v)), (3, .int (iI z)), (4, .int (iI i))] [] [ceO 7 mo [.int (iI th), .int (iI n), .int (iI ac), .ref tha, .int (iI (bZ gk)), .ref rea, .ref poa, .int (iI mn), .ref cha, .ref goa, .ref lea, .int (iI nv), .int (iI mm), .ref fia, .ref sea, .int (iI (bZ ck)), .ref sta, .ref lda, .ref vla, .int (iI (bZ gd)), .int (iI fl), .ref dia, .ref qua], ceZ G tha 25600 (fz B), ceZ G rea 25600 (fz H), ceI G poa 160 Nb, ceI G cha 160 C, ceZ G goa 25600 (fz D), ceI G lea 160 Ls] 0 0 := by
  intro d
  induction d with
  | zero =>
    intro i z hd hI
    have hz : i = n := by omega
    subst hz
    refine vv_iload F zd_MO_counted_48 4 rfl ?_
    refine vv_aload_n F zd_MO_counted_50 rfl 0 rfl ?_
    refine vv_get F zd_MO_counted_51 zf_MO 0 rfl rfl 1 (by decide) zw_757 rfl ?_
    refine vv_icmp_ge (tgt := 98) F zd_MO_counted_54 rfl (by first | exact ⟨by omega, by omega⟩ | exact hv) (by first | exact ⟨by omega, by omega⟩ | exact hv) (fun _ => ?_) (fun h9 => absurd h9 (by omega))
    exact k z hI
  | succ d ih =>
    intro i z hd hI
    refine vv_iload F zd_MO_counted_48 4 rfl ?_
    refine vv_aload_n F zd_MO_counted_50 rfl 0 rfl ?_
    refine vv_get F zd_MO_counted_51 zf_MO 0 rfl rfl 1 (by decide) zw_757 rfl ?_
    refine vv_icmp_ge (tgt := 98) F zd_MO_counted_54 rfl (by first | exact ⟨by omega, by omega⟩ | exact hv) (by first | exact ⟨by omega, by omega⟩ | exact hv) (fun h9 => absurd h9 (by omega)) (fun _ => ?_)
    refine vv_aload_n F zd_MO_counted_57 rfl 0 rfl ?_
    refine vv_get F zd_MO_counted_58 zf_MO 0 rfl rfl 5 (by decide) zw_761 rfl ?_
    refine vv_iload_n F zd_MO_counted_61 rfl 2 rfl ?_
    refine vv_if_ne (tgt := 74) F zd_MO_counted_62 rfl (by first | exact ⟨by omega, by omega⟩ | exact hv) (fun h1 => ?_) (fun h1 => ?_)
    · refine vv_iload F zd_MO_counted_74 4 rfl ?_
      refine vv_iload_n F zd_MO_counted_76 rfl 1 rfl ?_
      refine vv_callS (As := [.int (iI i), .int (iI u)]) (rest := [.ref rea]) (wr := [ceO 7 mo [.int (iI th), .int (iI n), .int (iI ac), .ref tha, .int (iI (bZ gk)), .ref rea, .ref poa, .int (iI mn), .ref cha, .ref goa, .ref lea, .int (iI nv), .int (iI mm), .ref fia, .ref sea, .int (iI (bZ ck)), .ref sta, .ref lda, .ref vla, .int (iI (bZ gd)), .int (iI fl), .ref dia, .ref qua], ceZ G tha 25600 (fz B), ceZ G rea 25600 (fz H), ceI G poa 160 Nb, ceI G cha 160 C, ceZ G goa 25600 (fz D), ceI G lea 160 Ls]) F (cn_MO_cell l G i u) zm_MO_cell zw_844 zw_843 zd_MO_counted_77 ⟨by decide, by decide⟩ ⟨by decide, by decide⟩ [] [0, 1, 2, 3, 4, 5, 6] rfl rfl ⟨rfl, rfl, by decide⟩ rfl rfl (Nat.le_of_ble_eq_true rfl) (vv_then (ws' := [ceO 7 mo [.int (iI th), .int (iI n), .int (iI ac), .ref tha, .int (iI (bZ gk)), .ref rea, .ref poa, .int (iI mn), .ref cha, .ref goa, .ref lea, .int (iI nv), .int (iI mm), .ref fia, .ref sea, .int (iI (bZ ck)), .ref sta, .ref lda, .ref vla, .int (iI (bZ gd)), .int (iI fl), .ref dia, .ref qua], ceZ G tha 25600 (fz B), ceZ G rea 25600 (fz H), ceI G poa 160 Nb, ceI G cha 160 C, ceZ G goa 25600 (fz D), ceI G lea 160 Ls]) (st' := [.int (iI (160 * i + u)), .ref rea]) [0, 1, 2, 3, 4, 5, 6] rfl rfl rfl ?_)
      refine vv_zald F zd_MO_counted_80 2 rfl ⟨by omega, by omega⟩ (by decide) ?_
      refine vv_ti (congrArg bZ (fzI (B := H) (u := i) (v := u) (by omega) ⟨by omega, by omega⟩)) ?_
      refine vv_if_eq (tgt := 90) F zd_MO_counted_81 rfl (bZ_rg _) (fun h2 => ?_) (fun h2 => ?_)
      · have h2 : (H i.toNat u.toNat) = false := (bZ_0 _).mp h2
        refine vv_iload_n F zd_MO_counted_90 rfl 3 rfl ?_
        refine vv_istore_n (lv' := [(0, .ref mo), (1, .int (iI u)), (2, .int (iI v)), (3, .int (iI z)), (4, .int (iI i))]) F zd_MO_counted_91 rfl (by decide) [1, 2, 3, 0, 4] rfl ?_
        refine vv_iinc (j := 4) (lv' := [(0, .ref mo), (1, .int (iI u)), (2, .int (iI v)), (3, .int (iI z)), (4, .int (iI (i + 1)))]) F zd_MO_counted_92 rfl (by decide) [1, 2, 3, 4, 0] rfl ?_
        refine vv_goto (tgt := 48) F zd_MO_counted_95 rfl ?_
        exact ih (i + 1) z (by omega) (⟨by omega, by rw [show (i + 1).toNat = i.toNat + 1 by omega, cN_f (g := mcq H u v) (by unfold mcq; rw [if_neg (by omega)]; exact h2)]; omega⟩)
      · have h2 : (H i.toNat u.toNat) = true := by cases hb9 : (H i.toNat u.toNat) with | true => rfl | false => exact absurd ((bZ_0 _).mpr hb9) h2
        refine vv_iload_n F zd_MO_counted_84 rfl 3 rfl ?_
        refine vv_iconst F zd_MO_counted_85 ?_
        refine vv_iadd F zd_MO_counted_86 ?_
        refine vv_goto (tgt := 91) F zd_MO_counted_87 rfl ?_
        refine vv_istore_n (lv' := [(0, .ref mo), (1, .int (iI u)), (2, .int (iI v)), (3, .int (iI (z + 1))), (4, .int (iI i))]) F zd_MO_counted_91 rfl (by decide) [1, 2, 3, 0, 4] rfl ?_
        refine vv_iinc (j := 4) (lv' := [(0, .ref mo), (1, .int (iI u)), (2, .int (iI v)), (3, .int (iI (z + 1))), (4, .int (iI (i + 1)))]) F zd_MO_counted_92 rfl (by decide) [1, 2, 3, 4, 0] rfl ?_
        refine vv_goto (tgt := 48) F zd_MO_counted_95 rfl ?_
        exact ih (i + 1) (z + 1) (by omega) (⟨by omega, by rw [show (i + 1).toNat = i.toNat + 1 by omega, cN_t (g := mcq H u v) (by unfold mcq; rw [if_neg (by omega)]; exact h2)]; omega⟩)
    · refine vv_iload_n F zd_MO_counted_65 rfl 1 rfl ?_
      refine vv_iload F zd_MO_counted_66 4 rfl ?_
      refine vv_callS (As := [.int (iI u), .int (iI i)]) (rest := [.ref rea]) (wr := [ceO 7 mo [.int (iI th), .int (iI n), .int (iI ac), .ref tha, .int (iI (bZ gk)), .ref rea, .ref poa, .int (iI mn), .ref cha, .ref goa, .ref lea, .int (iI nv), .int (iI mm), .ref fia, .ref sea, .int (iI (bZ ck)), .ref sta, .ref lda, .ref vla, .int (iI (bZ gd)), .int (iI fl), .ref dia, .ref qua], ceZ G tha 25600 (fz B), ceZ G rea 25600 (fz H), ceI G poa 160 Nb, ceI G cha 160 C, ceZ G goa 25600 (fz D), ceI G lea 160 Ls]) F (cn_MO_cell l G u i) zm_MO_cell zw_844 zw_843 zd_MO_counted_68 ⟨by decide, by decide⟩ ⟨by decide, by decide⟩ [] [0, 1, 2, 3, 4, 5, 6] rfl rfl ⟨rfl, rfl, by decide⟩ rfl rfl (Nat.le_of_ble_eq_true rfl) (vv_then (ws' := [ceO 7 mo [.int (iI th), .int (iI n), .int (iI ac), .ref tha, .int (iI (bZ gk)), .ref rea, .ref poa, .int (iI mn), .ref cha, .ref goa, .ref lea, .int (iI nv), .int (iI mm), .ref fia, .ref sea, .int (iI (bZ ck)), .ref sta, .ref lda, .ref vla, .int (iI (bZ gd)), .int (iI fl), .ref dia, .ref qua], ceZ G tha 25600 (fz B), ceZ G rea 25600 (fz H), ceI G poa 160 Nb, ceI G cha 160 C, ceZ G goa 25600 (fz D), ceI G lea 160 Ls]) (st' := [.int (iI (160 * u + i)), .ref rea]) [0, 1, 2, 3, 4, 5, 6] rfl rfl rfl ?_)
      refine vv_goto (tgt := 80) F zd_MO_counted_71 rfl ?_
      refine vv_zald F zd_MO_counted_80 2 rfl ⟨by omega, by omega⟩ (by decide) ?_
      refine vv_ti (congrArg bZ (fzI (B := H) (u := u) (v := i) (by omega) ⟨by omega, by omega⟩)) ?_
      refine vv_if_eq (tgt := 90) F zd_MO_counted_81 rfl (bZ_rg _) (fun h3 => ?_) (fun h3 => ?_)
      · have h3 : (H u.toNat i.toNat) = false := (bZ_0 _).mp h3
        refine vv_iload_n F zd_MO_counted_90 rfl 3 rfl ?_
        refine vv_istore_n (lv' := [(0, .ref mo), (1, .int (iI u)), (2, .int (iI v)), (3, .int (iI z)), (4, .int (iI i))]) F zd_MO_counted_91 rfl (by decide) [1, 2, 3, 0, 4] rfl ?_
        refine vv_iinc (j := 4) (lv' := [(0, .ref mo), (1, .int (iI u)), (2, .int (iI v)), (3, .int (iI z)), (4, .int (iI (i + 1)))]) F zd_MO_counted_92 rfl (by decide) [1, 2, 3, 4, 0] rfl ?_
        refine vv_goto (tgt := 48) F zd_MO_counted_95 rfl ?_
        exact ih (i + 1) z (by omega) (⟨by omega, by rw [show (i + 1).toNat = i.toNat + 1 by omega, cN_f (g := mcq H u v) (by unfold mcq; rw [if_pos (by omega)]; exact h3)]; omega⟩)
      · have h3 : (H u.toNat i.toNat) = true := by cases hb9 : (H u.toNat i.toNat) with | true => rfl | false => exact absurd ((bZ_0 _).mpr hb9) h3
        refine vv_iload_n F zd_MO_counted_84 rfl 3 rfl ?_
        refine vv_iconst F zd_MO_counted_85 ?_
        refine vv_iadd F zd_MO_counted_86 ?_
        refine vv_goto (tgt := 91) F zd_MO_counted_87 rfl ?_
        refine vv_istore_n (lv' := [(0, .ref mo), (1, .int (iI u)), (2, .int (iI v)), (3, .int (iI (z + 1))), (4, .int (iI i))]) F zd_MO_counted_91 rfl (by decide) [1, 2, 3, 0, 4] rfl ?_
        refine vv_iinc (j := 4) (lv' := [(0, .ref mo), (1, .int (iI u)), (2, .int (iI v)), (3, .int (iI (z + 1))), (4, .int (iI (i + 1)))]) F zd_MO_counted_92 rfl (by decide) [1, 2, 3, 4, 0] rfl ?_
        refine vv_goto (tgt := 48) F zd_MO_counted_95 rfl ?_
        exact ih (i + 1) (z + 1) (by omega) (⟨by omega, by rw [show (i + 1).toNat = i.toNat + 1 by omega, cN_t (g := mcq H u v) (by unfold mcq; rw [if_pos (by omega)]; exact h3)]; omega⟩)

set_option maxHeartbeats 4000000 in
set_option maxRecDepth 100000 in
theorem cn_MO_counted (l : Launch) (G : vv_G) (mo : Nat) (th : Int) (n : Int) (ac : Int) (tha : Nat) (gk : Bool) (rea : Nat) (poa : Nat) (mn : Int) (cha : Nat) (goa : Nat) (lea : Nat) (nv : Int) (mm : Int) (fia : Nat) (sea : Nat) (ck : Bool) (sta : Nat) (lda : Nat) (vla : Nat) (gd : Bool) (fl : Int) (dia : Nat) (qua : Nat) (B : Nat → Nat → Bool) (H : Nat → Nat → Bool) (Nb : Nat → Int) (C : Nat → Int) (D : Nat → Nat → Bool) (Ls : Nat → Int) (u : Int) (v : Int) (hn : 1 ≤ n ∧ n ≤ 160) (hB : ∀ x y, B x y = true → x < n.toNat ∧ y < n.toNat) (hg : gk = true → mK B n.toNat H Nb Ls mn D C) (hu : rg u) (hv : rg v) :
    vv_C l zy_MO_counted zc_MO_counted 5 (some .int) { frames := 5, cells := 0, slots := 0, locals := 110 } G [.ref mo, .int (iI u), .int (iI v)] [ceO 7 mo [.int (iI th), .int (iI n), .int (iI ac), .ref tha, .int (iI (bZ gk)), .ref rea, .ref poa, .int (iI mn), .ref cha, .ref goa, .ref lea, .int (iI nv), .int (iI mm), .ref fia, .ref sea, .int (iI (bZ ck)), .ref sta, .ref lda, .ref vla, .int (iI (bZ gd)), .int (iI fl), .ref dia, .ref qua], ceZ G tha 25600 (fz B), ceZ G rea 25600 (fz H), ceI G poa 160 Nb, ceI G cha 160 C, ceZ G goa 25600 (fz D), ceI G lea 160 Ls] (fun v7 w7 => ∃ (th2 : Int) (gk2 : Bool) (H2 : Nat → Nat → Bool) (Nb2 : Nat → Int) (mn2 : Int) (C2 : Nat → Int) (D2 : Nat → Nat → Bool) (Ls2 : Nat → Int) (z : Int), (gk2 = true → mK B n.toNat H2 Nb2 Ls2 mn2 D2 C2) ∧ ((nno n u ∧ th2 = 1 ∧ z = 0) ∨ ((0 ≤ u ∧ u < n) ∧ (v < 0 ∨ 1 < v) ∧ th2 = 2 ∧ z = 0) ∨ ((0 ≤ u ∧ u < n) ∧ (0 ≤ v ∧ v ≤ 1) ∧ th2 = 0 ∧ mK B n.toNat H2 Nb2 Ls2 mn2 D2 C2 ∧ z = (cN (mcq H2 u v) n.toNat : Int))) ∧ v7 = some (.int (iI z)) ∧ w7 = [ceO 7 mo [.int (iI th2), .int (iI n), .int (iI ac), .ref tha, .int (iI (bZ gk2)), .ref rea, .ref poa, .int (iI mn2), .ref cha, .ref goa, .ref lea, .int (iI nv), .int (iI mm), .ref fia, .ref sea, .int (iI (bZ ck)), .ref sta, .ref lda, .ref vla, .int (iI (bZ gd)), .int (iI fl), .ref dia, .ref qua], ceZ G tha 25600 (fz B), ceZ G rea 25600 (fz H2), ceI G poa 160 Nb2, ceI G cha 160 C2, ceZ G goa 25600 (fz D2), ceI G lea 160 Ls2]) := by
  refine vv_met (by decide +kernel) (Nat.le_of_ble_eq_true rfl) rfl ?_
  intro p e s m args below meth c A F
  refine vv_aload_n F zd_MO_counted_0 rfl 0 rfl ?_
  refine vv_aload_n F zd_MO_counted_1 rfl 0 rfl ?_
  refine vv_iload_n F zd_MO_counted_2 rfl 1 rfl ?_
  refine vv_callV (q0 := 0) (As := [.int (iI u)]) (rest := [.ref mo]) (wr := [ceZ G tha 25600 (fz B), ceZ G rea 25600 (fz H), ceI G poa 160 Nb, ceI G cha 160 C, ceZ G goa 25600 (fz D), ceI G lea 160 Ls]) F (cn_MO_noNode l G mo th n ac tha gk rea poa mn cha goa lea nv mm fia sea ck sta lda vla gd fl dia qua u hu ⟨by omega, by omega⟩) zm_MO_noNode ⟨zw_841, zs_MO_noNode⟩ zw_839 zd_MO_counted_3 ⟨by decide, by decide⟩ ⟨by decide, by decide⟩ [0] [1, 2, 3, 4, 5, 6] rfl rfl ⟨rfl, rfl, by decide⟩ rfl rfl rfl rfl (Nat.le_of_ble_eq_true rfl) (vv_then (ws' := [ceO 7 mo [.int (iI th), .int (iI n), .int (iI ac), .ref tha, .int (iI (bZ gk)), .ref rea, .ref poa, .int (iI mn), .ref cha, .ref goa, .ref lea, .int (iI nv), .int (iI mm), .ref fia, .ref sea, .int (iI (bZ ck)), .ref sta, .ref lda, .ref vla, .int (iI (bZ gd)), .int (iI fl), .ref dia, .ref qua], ceZ G tha 25600 (fz B), ceZ G rea 25600 (fz H), ceI G poa 160 Nb, ceI G cha 160 C, ceZ G goa 25600 (fz D), ceI G lea 160 Ls]) (st' := [.int (iI (bZ (decide (u < 0 ∨ n ≤ u)))), .ref mo]) [6, 0, 1, 2, 3, 4, 5] rfl rfl rfl ?_)
  refine vv_if_eq (tgt := 13) F zd_MO_counted_6 rfl (bZ_rg _) (fun h1 => ?_) (fun h1 => ?_)
  · have h1 : (decide (u < 0 ∨ n ≤ u)) = false := (bZ_0 _).mp h1
    have h1 := of_decide_eq_false h1
    refine vv_iload_n F zd_MO_counted_13 rfl 2 rfl ?_
    refine vv_if_lt (tgt := 22) F zd_MO_counted_14 rfl (by first | exact ⟨by omega, by omega⟩ | exact hu | exact hv) (fun h2 => ?_) (fun h2 => ?_)
    · refine vv_iconst F zd_MO_counted_22 ?_
      refine vv_goto (tgt := 27) F zd_MO_counted_23 rfl ?_
      refine vv_put (v := .int (iI 2)) (ws' := [ceO 7 mo [.int (iI 2), .int (iI n), .int (iI ac), .ref tha, .int (iI (bZ gk)), .ref rea, .ref poa, .int (iI mn), .ref cha, .ref goa, .ref lea, .int (iI nv), .int (iI mm), .ref fia, .ref sea, .int (iI (bZ ck)), .ref sta, .ref lda, .ref vla, .int (iI (bZ gd)), .int (iI fl), .ref dia, .ref qua], ceZ G tha 25600 (fz B), ceZ G rea 25600 (fz H), ceI G poa 160 Nb, ceI G cha 160 C, ceZ G goa 25600 (fz D), ceI G lea 160 Ls]) F zd_MO_counted_27 zf_MO zt_MO_ok zn_MO 0 rfl rfl 0 (by decide) zw_756 rfl rfl rfl (Nat.le_of_ble_eq_true rfl) rfl ?_
      refine vv_aload_n F zd_MO_counted_30 rfl 0 rfl ?_
      refine vv_get F zd_MO_counted_31 zf_MO 0 rfl rfl 0 (by decide) zw_756 rfl ?_
      refine vv_if_le (tgt := 39) F zd_MO_counted_34 rfl (by decide) (fun h9 => absurd h9 (by decide)) (fun _ => ?_)
      refine vv_iconst F zd_MO_counted_37 ?_
      exact vv_iret F zd_MO_counted_38 ⟨_, gk, H, Nb, mn, C, D, Ls, _, hg, Or.inr (Or.inl ⟨⟨by omega, by omega⟩, by omega, rfl, rfl⟩), rfl, rfl⟩
    · refine vv_iload_n F zd_MO_counted_17 rfl 2 rfl ?_
      refine vv_iconst F zd_MO_counted_18 ?_
      refine vv_icmp_le (tgt := 26) F zd_MO_counted_19 rfl (by first | exact ⟨by omega, by omega⟩ | exact hu | exact hv) (by decide) (fun h3 => ?_) (fun h3 => ?_)
      · refine vv_iconst F zd_MO_counted_26 ?_
        refine vv_put (v := .int (iI 0)) (ws' := [ceO 7 mo [.int (iI 0), .int (iI n), .int (iI ac), .ref tha, .int (iI (bZ gk)), .ref rea, .ref poa, .int (iI mn), .ref cha, .ref goa, .ref lea, .int (iI nv), .int (iI mm), .ref fia, .ref sea, .int (iI (bZ ck)), .ref sta, .ref lda, .ref vla, .int (iI (bZ gd)), .int (iI fl), .ref dia, .ref qua], ceZ G tha 25600 (fz B), ceZ G rea 25600 (fz H), ceI G poa 160 Nb, ceI G cha 160 C, ceZ G goa 25600 (fz D), ceI G lea 160 Ls]) F zd_MO_counted_27 zf_MO zt_MO_ok zn_MO 0 rfl rfl 0 (by decide) zw_756 rfl rfl rfl (Nat.le_of_ble_eq_true rfl) rfl ?_
        refine vv_aload_n F zd_MO_counted_30 rfl 0 rfl ?_
        refine vv_get F zd_MO_counted_31 zf_MO 0 rfl rfl 0 (by decide) zw_756 rfl ?_
        refine vv_if_le (tgt := 39) F zd_MO_counted_34 rfl (by decide) (fun _ => ?_) (fun h9 => absurd h9 (by decide))
        refine vv_aload_n F zd_MO_counted_39 rfl 0 rfl ?_
        refine vv_callV (q0 := 0) (As := []) (rest := []) (wr := []) F (cn_MO_know l G mo 0 n ac tha gk rea poa mn cha goa lea nv mm fia sea ck sta lda vla gd fl dia qua B H Nb C D Ls ⟨by omega, by omega⟩ hB hg) zm_MO_know ⟨zw_856, zs_MO_know⟩ zw_854 zd_MO_counted_40 ⟨by decide, by decide⟩ ⟨by decide, by decide⟩ [0, 1, 2, 3, 4, 5, 6] [] rfl rfl ⟨rfl, rfl, by decide⟩ rfl rfl rfl rfl (Nat.le_of_ble_eq_true rfl) (fun v9 w9 hp9 => ?_)
        obtain ⟨H2_1, Nb2_2, mn2_3, C2_4, D2_5, Ls2_6, hf1_0, rfl, rfl⟩ := hp9
        refine vv_thenE (ws' := [ceO 7 mo [.int (iI 0), .int (iI n), .int (iI ac), .ref tha, .int (iI (bZ true)), .ref rea, .ref poa, .int (iI mn2_3), .ref cha, .ref goa, .ref lea, .int (iI nv), .int (iI mm), .ref fia, .ref sea, .int (iI (bZ ck)), .ref sta, .ref lda, .ref vla, .int (iI (bZ gd)), .int (iI fl), .ref dia, .ref qua], ceZ G tha 25600 (fz B), ceZ G rea 25600 (fz H2_1), ceI G poa 160 Nb2_2, ceI G cha 160 C2_4, ceZ G goa 25600 (fz D2_5), ceI G lea 160 Ls2_6]) (st' := []) (kc' := 0) (ks' := 0) [0, 1, 2, 3, 4, 5, 6] rfl rfl rfl ?_
        refine vv_iconst F zd_MO_counted_43 ?_
        refine vv_istore_n (lv' := [(0, .ref mo), (1, .int (iI u)), (2, .int (iI v)), (3, .int (iI 0))]) F zd_MO_counted_44 rfl (by decide) [1, 2, 3, 0] rfl ?_
        refine vv_iconst F zd_MO_counted_45 ?_
        refine vv_istore (lv' := [(0, .ref mo), (1, .int (iI u)), (2, .int (iI v)), (3, .int (iI 0)), (4, .int (iI 0))]) F zd_MO_counted_46 (by decide) [1, 2, 3, 4, 0] rfl ?_
        refine lp_MO_co F mo 0 n ac tha true rea poa mn2_3 cha goa lea nv mm fia sea ck sta lda vla gd fl dia qua B H2_1 Nb2_2 C2_4 D2_5 Ls2_6 u v hn ⟨by omega, by omega⟩ hv (fun z9 hI => ?_) n.toNat 0 0 (by omega) ⟨by omega, rfl⟩
        refine vv_iload_n F zd_MO_counted_98 rfl 3 rfl ?_
        exact vv_iret F zd_MO_counted_99 ⟨_, true, _, _, _, _, _, _, _, fun _ => hf1_0, Or.inr (Or.inr ⟨⟨by omega, by omega⟩, ⟨by omega, by omega⟩, rfl, hf1_0, hI.2⟩), rfl, rfl⟩
      · refine vv_iconst F zd_MO_counted_22 ?_
        refine vv_goto (tgt := 27) F zd_MO_counted_23 rfl ?_
        refine vv_put (v := .int (iI 2)) (ws' := [ceO 7 mo [.int (iI 2), .int (iI n), .int (iI ac), .ref tha, .int (iI (bZ gk)), .ref rea, .ref poa, .int (iI mn), .ref cha, .ref goa, .ref lea, .int (iI nv), .int (iI mm), .ref fia, .ref sea, .int (iI (bZ ck)), .ref sta, .ref lda, .ref vla, .int (iI (bZ gd)), .int (iI fl), .ref dia, .ref qua], ceZ G tha 25600 (fz B), ceZ G rea 25600 (fz H), ceI G poa 160 Nb, ceI G cha 160 C, ceZ G goa 25600 (fz D), ceI G lea 160 Ls]) F zd_MO_counted_27 zf_MO zt_MO_ok zn_MO 0 rfl rfl 0 (by decide) zw_756 rfl rfl rfl (Nat.le_of_ble_eq_true rfl) rfl ?_
        refine vv_aload_n F zd_MO_counted_30 rfl 0 rfl ?_
        refine vv_get F zd_MO_counted_31 zf_MO 0 rfl rfl 0 (by decide) zw_756 rfl ?_
        refine vv_if_le (tgt := 39) F zd_MO_counted_34 rfl (by decide) (fun h9 => absurd h9 (by decide)) (fun _ => ?_)
        refine vv_iconst F zd_MO_counted_37 ?_
        exact vv_iret F zd_MO_counted_38 ⟨_, gk, H, Nb, mn, C, D, Ls, _, hg, Or.inr (Or.inl ⟨⟨by omega, by omega⟩, by omega, rfl, rfl⟩), rfl, rfl⟩
  · have h1 : (decide (u < 0 ∨ n ≤ u)) = true := by cases hb9 : (decide (u < 0 ∨ n ≤ u)) with | true => rfl | false => exact absurd ((bZ_0 _).mpr hb9) h1
    have h1 := of_decide_eq_true h1
    refine vv_iconst F zd_MO_counted_9 ?_
    refine vv_goto (tgt := 27) F zd_MO_counted_10 rfl ?_
    refine vv_put (v := .int (iI 1)) (ws' := [ceO 7 mo [.int (iI 1), .int (iI n), .int (iI ac), .ref tha, .int (iI (bZ gk)), .ref rea, .ref poa, .int (iI mn), .ref cha, .ref goa, .ref lea, .int (iI nv), .int (iI mm), .ref fia, .ref sea, .int (iI (bZ ck)), .ref sta, .ref lda, .ref vla, .int (iI (bZ gd)), .int (iI fl), .ref dia, .ref qua], ceZ G tha 25600 (fz B), ceZ G rea 25600 (fz H), ceI G poa 160 Nb, ceI G cha 160 C, ceZ G goa 25600 (fz D), ceI G lea 160 Ls]) F zd_MO_counted_27 zf_MO zt_MO_ok zn_MO 0 rfl rfl 0 (by decide) zw_756 rfl rfl rfl (Nat.le_of_ble_eq_true rfl) rfl ?_
    refine vv_aload_n F zd_MO_counted_30 rfl 0 rfl ?_
    refine vv_get F zd_MO_counted_31 zf_MO 0 rfl rfl 0 (by decide) zw_756 rfl ?_
    refine vv_if_le (tgt := 39) F zd_MO_counted_34 rfl (by decide) (fun h9 => absurd h9 (by decide)) (fun _ => ?_)
    refine vv_iconst F zd_MO_counted_37 ?_
    exact vv_iret F zd_MO_counted_38 ⟨_, gk, H, Nb, mn, C, D, Ls, _, hg, Or.inl ⟨by unfold nno; omega, rfl, rfl⟩, rfl, rfl⟩
