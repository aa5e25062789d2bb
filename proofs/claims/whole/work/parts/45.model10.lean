set_option maxHeartbeats 4000000 in
set_option maxRecDepth 100000 in
theorem cn_MO_can (l : Launch) (G : vv_G) (mo : Nat) (th : Int) (n : Int) (ac : Int) (tha : Nat) (gk : Bool) (rea : Nat) (poa : Nat) (mn : Int) (cha : Nat) (goa : Nat) (lea : Nat) (nv : Int) (mm : Int) (fia : Nat) (sea : Nat) (ck : Bool) (sta : Nat) (lda : Nat) (vla : Nat) (gd : Bool) (fl : Int) (dia : Nat) (qua : Nat) (f1 : Nat → Int) (f2 : Nat → Int) (S : Nat → Nat → Bool) (Ld : Nat → Nat → Bool) (V : Nat → Int) (hv : 1 ≤ nv ∧ nv ≤ 80) (hm : 0 ≤ mm ∧ mm ≤ 400) (hf : ∀ j : Nat, (j : Int) < mm → ¬ nli nv (f1 j) ∧ ¬ nli nv (f2 j)) (hc : ck = true → mC nv mm f1 f2 S Ld V gd fl) :
    vv_C l zy_MO_can zc_MO_can 1 (some .boolean) { frames := 3, cells := 0, slots := 0, locals := 68 } G [.ref mo] [ceO 7 mo [.int (iI th), .int (iI n), .int (iI ac), .ref tha, .int (iI (bZ gk)), .ref rea, .ref poa, .int (iI mn), .ref cha, .ref goa, .ref lea, .int (iI nv), .int (iI mm), .ref fia, .ref sea, .int (iI (bZ ck)), .ref sta, .ref lda, .ref vla, .int (iI (bZ gd)), .int (iI fl), .ref dia, .ref qua], ceI G fia 400 f1, ceI G sea 400 f2, ceZ G sta 25600 (fz S), ceZ G lda 25600 (fz Ld), ceI G vla 160 V] (fun v7 w7 => ∃ (th2 : Int) (S2 : Nat → Nat → Bool) (Ld2 : Nat → Nat → Bool) (V2 : Nat → Int) (gd2 : Bool) (fl2 : Int) (z : Bool), (mC nv mm f1 f2 S2 Ld2 V2 gd2 fl2) ∧ (th2 = 0 ∧ z = gd2) ∧ v7 = some (.int (iI (bZ z))) ∧ w7 = [ceO 7 mo [.int (iI th2), .int (iI n), .int (iI ac), .ref tha, .int (iI (bZ gk)), .ref rea, .ref poa, .int (iI mn), .ref cha, .ref goa, .ref lea, .int (iI nv), .int (iI mm), .ref fia, .ref sea, .int (iI (bZ true)), .ref sta, .ref lda, .ref vla, .int (iI (bZ gd2)), .int (iI fl2), .ref dia, .ref qua], ceI G fia 400 f1, ceI G sea 400 f2, ceZ G sta 25600 (fz S2), ceZ G lda 25600 (fz Ld2), ceI G vla 160 V2]) := by
  refine vv_met (by decide +kernel) (Nat.le_of_ble_eq_true rfl) rfl ?_
  intro p e s m args below meth c A F
  refine vv_aload_n F zd_MO_can_0 rfl 0 rfl ?_
  refine vv_iconst F zd_MO_can_1 ?_
  refine vv_put (v := .int (iI 0)) (ws' := [ceO 7 mo [.int (iI 0), .int (iI n), .int (iI ac), .ref tha, .int (iI (bZ gk)), .ref rea, .ref poa, .int (iI mn), .ref cha, .ref goa, .ref lea, .int (iI nv), .int (iI mm), .ref fia, .ref sea, .int (iI (bZ ck)), .ref sta, .ref lda, .ref vla, .int (iI (bZ gd)), .int (iI fl), .ref dia, .ref qua], ceI G fia 400 f1, ceI G sea 400 f2, ceZ G sta 25600 (fz S), ceZ G lda 25600 (fz Ld), ceI G vla 160 V]) F zd_MO_can_2 zf_MO zt_MO_ok zn_MO 0 rfl rfl 0 (by decide) zw_756 rfl rfl rfl (Nat.le_of_ble_eq_true rfl) rfl ?_
  refine vv_aload_n F zd_MO_can_5 rfl 0 rfl ?_
  refine vv_callV (q0 := 0) (As := []) (rest := []) (wr := []) F (cn_MO_knowClauses l G mo 0 n ac tha gk rea poa mn cha goa lea nv mm fia sea ck sta lda vla gd fl dia qua f1 f2 S Ld V hv hm hf hc) zm_MO_knowClauses ⟨zw_941, zs_MO_knowClauses⟩ zw_939 zd_MO_can_6 ⟨by decide, by decide⟩ ⟨by decide, by decide⟩ [0, 1, 2, 3, 4, 5] [] rfl rfl ⟨rfl, rfl, by decide⟩ rfl rfl rfl rfl (Nat.le_of_ble_eq_true rfl) (fun v9 w9 hp9 => ?_)
  obtain ⟨S2_1, Ld2_2, V2_3, gd2_4, fl2_5, hf1_0, rfl, rfl⟩ := hp9
  refine vv_thenE (ws' := [ceO 7 mo [.int (iI 0), .int (iI n), .int (iI ac), .ref tha, .int (iI (bZ gk)), .ref rea, .ref poa, .int (iI mn), .ref cha, .ref goa, .ref lea, .int (iI nv), .int (iI mm), .ref fia, .ref sea, .int (iI (bZ true)), .ref sta, .ref lda, .ref vla, .int (iI (bZ gd2_4)), .int (iI fl2_5), .ref dia, .ref qua], ceI G fia 400 f1, ceI G sea 400 f2, ceZ G sta 25600 (fz S2_1), ceZ G lda 25600 (fz Ld2_2), ceI G vla 160 V2_3]) (st' := []) (kc' := 0) (ks' := 0) [0, 1, 2, 3, 4, 5] rfl rfl rfl ?_
  have hfr := fai_rg hf1_0.2.2.1
  refine vv_aload_n F zd_MO_can_9 rfl 0 rfl ?_
  refine vv_get F zd_MO_can_10 zf_MO 0 rfl rfl 19 (by decide) zw_775 rfl ?_
  exact vv_zret F zd_MO_can_13 ⟨_, _, _, _, _, _, _, hf1_0, ⟨rfl, rfl⟩, rfl, rfl⟩

set_option maxHeartbeats 4000000 in
set_option maxRecDepth 100000 in
theorem cn_MO_fails (l : Launch) (G : vv_G) (mo : Nat) (th : Int) (n : Int) (ac : Int) (tha : Nat) (gk : Bool) (rea : Nat) (poa : Nat) (mn : Int) (cha : Nat) (goa : Nat) (lea : Nat) (nv : Int) (mm : Int) (fia : Nat) (sea : Nat) (ck : Bool) (sta : Nat) (lda : Nat) (vla : Nat) (gd : Bool) (fl : Int) (dia : Nat) (qua : Nat) (f1 : Nat → Int) (f2 : Nat → Int) (S : Nat → Nat → Bool) (Ld : Nat → Nat → Bool) (V : Nat → Int) (hv : 1 ≤ nv ∧ nv ≤ 80) (hm : 0 ≤ mm ∧ mm ≤ 400) (hf : ∀ j : Nat, (j : Int) < mm → ¬ nli nv (f1 j) ∧ ¬ nli nv (f2 j)) (hc : ck = true → mC nv mm f1 f2 S Ld V gd fl) :
    vv_C l zy_MO_fails zc_MO_fails 1 (some .int) { frames := 3, cells := 0, slots := 0, locals := 68 } G [.ref mo] [ceO 7 mo [.int (iI th), .int (iI n), .int (iI ac), .ref tha, .int (iI (bZ gk)), .ref rea, .ref poa, .int (iI mn), .ref cha, .ref goa, .ref lea, .int (iI nv), .int (iI mm), .ref fia, .ref sea, .int (iI (bZ ck)), .ref sta, .ref lda, .ref vla, .int (iI (bZ gd)), .int (iI fl), .ref dia, .ref qua], ceI G fia 400 f1, ceI G sea 400 f2, ceZ G sta 25600 (fz S), ceZ G lda 25600 (fz Ld), ceI G vla 160 V] (fun v7 w7 => ∃ (th2 : Int) (S2 : Nat → Nat → Bool) (Ld2 : Nat → Nat → Bool) (V2 : Nat → Int) (gd2 : Bool) (fl2 : Int) (z : Int), (mC nv mm f1 f2 S2 Ld2 V2 gd2 fl2) ∧ (th2 = 0 ∧ z = fl2) ∧ v7 = some (.int (iI z)) ∧ w7 = [ceO 7 mo [.int (iI th2), .int (iI n), .int (iI ac), .ref tha, .int (iI (bZ gk)), .ref rea, .ref poa, .int (iI mn), .ref cha, .ref goa, .ref lea, .int (iI nv), .int (iI mm), .ref fia, .ref sea, .int (iI (bZ true)), .ref sta, .ref lda, .ref vla, .int (iI (bZ gd2)), .int (iI fl2), .ref dia, .ref qua], ceI G fia 400 f1, ceI G sea 400 f2, ceZ G sta 25600 (fz S2), ceZ G lda 25600 (fz Ld2), ceI G vla 160 V2]) := by
  refine vv_met (by decide +kernel) (Nat.le_of_ble_eq_true rfl) rfl ?_
  intro p e s m args below meth c A F
  refine vv_aload_n F zd_MO_fails_0 rfl 0 rfl ?_
  refine vv_iconst F zd_MO_fails_1 ?_
  refine vv_put (v := .int (iI 0)) (ws' := [ceO 7 mo [.int (iI 0), .int (iI n), .int (iI ac), .ref tha, .int (iI (bZ gk)), .ref rea, .ref poa, .int (iI mn), .ref cha, .ref goa, .ref lea, .int (iI nv), .int (iI mm), .ref fia, .ref sea, .int (iI (bZ ck)), .ref sta, .ref lda, .ref vla, .int (iI (bZ gd)), .int (iI fl), .ref dia, .ref qua], ceI G fia 400 f1, ceI G sea 400 f2, ceZ G sta 25600 (fz S), ceZ G lda 25600 (fz Ld), ceI G vla 160 V]) F zd_MO_fails_2 zf_MO zt_MO_ok zn_MO 0 rfl rfl 0 (by decide) zw_756 rfl rfl rfl (Nat.le_of_ble_eq_true rfl) rfl ?_
  refine vv_aload_n F zd_MO_fails_5 rfl 0 rfl ?_
  refine vv_callV (q0 := 0) (As := []) (rest := []) (wr := []) F (cn_MO_knowClauses l G mo 0 n ac tha gk rea poa mn cha goa lea nv mm fia sea ck sta lda vla gd fl dia qua f1 f2 S Ld V hv hm hf hc) zm_MO_knowClauses ⟨zw_941, zs_MO_knowClauses⟩ zw_939 zd_MO_fails_6 ⟨by decide, by decide⟩ ⟨by decide, by decide⟩ [0, 1, 2, 3, 4, 5] [] rfl rfl ⟨rfl, rfl, by decide⟩ rfl rfl rfl rfl (Nat.le_of_ble_eq_true rfl) (fun v9 w9 hp9 => ?_)
  obtain ⟨S2_1, Ld2_2, V2_3, gd2_4, fl2_5, hf1_0, rfl, rfl⟩ := hp9
  refine vv_thenE (ws' := [ceO 7 mo [.int (iI 0), .int (iI n), .int (iI ac), .ref tha, .int (iI (bZ gk)), .ref rea, .ref poa, .int (iI mn), .ref cha, .ref goa, .ref lea, .int (iI nv), .int (iI mm), .ref fia, .ref sea, .int (iI (bZ true)), .ref sta, .ref lda, .ref vla, .int (iI (bZ gd2_4)), .int (iI fl2_5), .ref dia, .ref qua], ceI G fia 400 f1, ceI G sea 400 f2, ceZ G sta 25600 (fz S2_1), ceZ G lda 25600 (fz Ld2_2), ceI G vla 160 V2_3]) (st' := []) (kc' := 0) (ks' := 0) [0, 1, 2, 3, 4, 5] rfl rfl rfl ?_
  have hfr := fai_rg hf1_0.2.2.1
  refine vv_aload_n F zd_MO_fails_9 rfl 0 rfl ?_
  refine vv_get F zd_MO_fails_10 zf_MO 0 rfl rfl 20 (by decide) zw_776 rfl ?_
  exact vv_iret F zd_MO_fails_13 ⟨_, _, _, _, _, _, _, hf1_0, ⟨rfl, rfl⟩, rfl, rfl⟩

set_option maxHeartbeats 4000000 in
set_option maxRecDepth 100000 in
theorem cn_MO_value (l : Launch) (G : vv_G) (mo : Nat) (th : Int) (n : Int) (ac : Int) (tha : Nat) (gk : Bool) (rea : Nat) (poa : Nat) (mn : Int) (cha : Nat) (goa : Nat) (lea : Nat) (nv : Int) (mm : Int) (fia : Nat) (sea : Nat) (ck : Bool) (sta : Nat) (lda : Nat) (vla : Nat) (gd : Bool) (fl : Int) (dia : Nat) (qua : Nat) (f1 : Nat → Int) (f2 : Nat → Int) (S : Nat → Nat → Bool) (Ld : Nat → Nat → Bool) (V : Nat → Int) (u : Int) (hv : 1 ≤ nv ∧ nv ≤ 80) (hm : 0 ≤ mm ∧ mm ≤ 400) (hf : ∀ j : Nat, (j : Int) < mm → ¬ nli nv (f1 j) ∧ ¬ nli nv (f2 j)) (hc : ck = true → mC nv mm f1 f2 S Ld V gd fl) (hu : rg u) :
    vv_C l zy_MO_value zc_MO_value 2 (some .int) { frames := 3, cells := 0, slots := 0, locals := 68 } G [.ref mo, .int (iI u)] [ceO 7 mo [.int (iI th), .int (iI n), .int (iI ac), .ref tha, .int (iI (bZ gk)), .ref rea, .ref poa, .int (iI mn), .ref cha, .ref goa, .ref lea, .int (iI nv), .int (iI mm), .ref fia, .ref sea, .int (iI (bZ ck)), .ref sta, .ref lda, .ref vla, .int (iI (bZ gd)), .int (iI fl), .ref dia, .ref qua], ceI G fia 400 f1, ceI G sea 400 f2, ceZ G sta 25600 (fz S), ceZ G lda 25600 (fz Ld), ceI G vla 160 V] (fun v7 w7 => ∃ (th2 : Int) (S2 : Nat → Nat → Bool) (Ld2 : Nat → Nat → Bool) (V2 : Nat → Int) (gd2 : Bool) (fl2 : Int) (z : Int), (mC nv mm f1 f2 S2 Ld2 V2 gd2 fl2) ∧ (((u < 1 ∨ nv < u) ∧ th2 = 1 ∧ z = 0) ∨ ((1 ≤ u ∧ u ≤ nv) ∧ gd2 = false ∧ th2 = 2 ∧ z = 0) ∨ ((1 ≤ u ∧ u ≤ nv) ∧ gd2 = true ∧ th2 = 0 ∧ z = V2 (u - 1).toNat)) ∧ v7 = some (.int (iI z)) ∧ w7 = [ceO 7 mo [.int (iI th2), .int (iI n), .int (iI ac), .ref tha, .int (iI (bZ gk)), .ref rea, .ref poa, .int (iI mn), .ref cha, .ref goa, .ref lea, .int (iI nv), .int (iI mm), .ref fia, .ref sea, .int (iI (bZ true)), .ref sta, .ref lda, .ref vla, .int (iI (bZ gd2)), .int (iI fl2), .ref dia, .ref qua], ceI G fia 400 f1, ceI G sea 400 f2, ceZ G sta 25600 (fz S2), ceZ G lda 25600 (fz Ld2), ceI G vla 160 V2]) := by
  refine vv_met (by decide +kernel) (Nat.le_of_ble_eq_true rfl) rfl ?_
  intro p e s m args below meth c A F
  refine vv_aload_n F zd_MO_value_0 rfl 0 rfl ?_
  refine vv_callV (q0 := 0) (As := []) (rest := []) (wr := []) F (cn_MO_knowClauses l G mo th n ac tha gk rea poa mn cha goa lea nv mm fia sea ck sta lda vla gd fl dia qua f1 f2 S Ld V hv hm hf hc) zm_MO_knowClauses ⟨zw_941, zs_MO_knowClauses⟩ zw_939 zd_MO_value_1 ⟨by decide, by decide⟩ ⟨by decide, by decide⟩ [0, 1, 2, 3, 4, 5] [] rfl rfl ⟨rfl, rfl, by decide⟩ rfl rfl rfl rfl (Nat.le_of_ble_eq_true rfl) (fun v9 w9 hp9 => ?_)
  obtain ⟨S2_1, Ld2_2, V2_3, gd2_4, fl2_5, hf1_0, rfl, rfl⟩ := hp9
  refine vv_thenE (ws' := [ceO 7 mo [.int (iI th), .int (iI n), .int (iI ac), .ref tha, .int (iI (bZ gk)), .ref rea, .ref poa, .int (iI mn), .ref cha, .ref goa, .ref lea, .int (iI nv), .int (iI mm), .ref fia, .ref sea, .int (iI (bZ true)), .ref sta, .ref lda, .ref vla, .int (iI (bZ gd2_4)), .int (iI fl2_5), .ref dia, .ref qua], ceI G fia 400 f1, ceI G sea 400 f2, ceZ G sta 25600 (fz S2_1), ceZ G lda 25600 (fz Ld2_2), ceI G vla 160 V2_3]) (st' := []) (kc' := 0) (ks' := 0) [0, 1, 2, 3, 4, 5] rfl rfl rfl ?_
  have hfr := fai_rg hf1_0.2.2.1
  refine vv_aload_n F zd_MO_value_4 rfl 0 rfl ?_
  refine vv_iload_n F zd_MO_value_5 rfl 1 rfl ?_
  refine vv_iconst F zd_MO_value_6 ?_
  refine vv_icmp_lt (tgt := 18) F zd_MO_value_7 rfl (by first | exact ⟨by omega, by omega⟩ | exact hu) (by decide) (fun h1 => ?_) (fun h1 => ?_)
  · refine vv_iconst F zd_MO_value_18 ?_
    refine vv_goto (tgt := 34) F zd_MO_value_19 rfl ?_
    refine vv_put (v := .int (iI 1)) (ws' := [ceO 7 mo [.int (iI 1), .int (iI n), .int (iI ac), .ref tha, .int (iI (bZ gk)), .ref rea, .ref poa, .int (iI mn), .ref cha, .ref goa, .ref lea, .int (iI nv), .int (iI mm), .ref fia, .ref sea, .int (iI (bZ true)), .ref sta, .ref lda, .ref vla, .int (iI (bZ gd2_4)), .int (iI fl2_5), .ref dia, .ref qua], ceI G fia 400 f1, ceI G sea 400 f2, ceZ G sta 25600 (fz S2_1), ceZ G lda 25600 (fz Ld2_2), ceI G vla 160 V2_3]) F zd_MO_value_34 zf_MO zt_MO_ok zn_MO 0 rfl rfl 0 (by decide) zw_756 rfl rfl rfl (Nat.le_of_ble_eq_true rfl) rfl ?_
    refine vv_aload_n F zd_MO_value_37 rfl 0 rfl ?_
    refine vv_get F zd_MO_value_38 zf_MO 0 rfl rfl 0 (by decide) zw_756 rfl ?_
    refine vv_if_le (tgt := 48) F zd_MO_value_41 rfl (by decide) (fun h9 => absurd h9 (by decide)) (fun _ => ?_)
    refine vv_iconst F zd_MO_value_44 ?_
    refine vv_goto (tgt := 56) F zd_MO_value_45 rfl ?_
    exact vv_iret F zd_MO_value_56 ⟨_, _, _, _, _, _, _, hf1_0, Or.inl ⟨by omega, rfl, rfl⟩, rfl, rfl⟩
  · refine vv_iload_n F zd_MO_value_10 rfl 1 rfl ?_
    refine vv_aload_n F zd_MO_value_11 rfl 0 rfl ?_
    refine vv_get F zd_MO_value_12 zf_MO 0 rfl rfl 11 (by decide) zw_767 rfl ?_
    refine vv_icmp_le (tgt := 22) F zd_MO_value_15 rfl (by first | exact ⟨by omega, by omega⟩ | exact hu) (by first | exact ⟨by omega, by omega⟩ | exact hu) (fun h2 => ?_) (fun h2 => ?_)
    · refine vv_aload_n F zd_MO_value_22 rfl 0 rfl ?_
      refine vv_get F zd_MO_value_23 zf_MO 0 rfl rfl 19 (by decide) zw_775 rfl ?_
      refine vv_if_ne (tgt := 33) F zd_MO_value_26 rfl (bZ_rg _) (fun h3 => ?_) (fun h3 => ?_)
      · have h3 : gd2_4 = true := by cases hb9 : gd2_4 with | true => rfl | false => exact absurd ((bZ_0 _).mpr hb9) h3
        refine vv_iconst F zd_MO_value_33 ?_
        refine vv_put (v := .int (iI 0)) (ws' := [ceO 7 mo [.int (iI 0), .int (iI n), .int (iI ac), .ref tha, .int (iI (bZ gk)), .ref rea, .ref poa, .int (iI mn), .ref cha, .ref goa, .ref lea, .int (iI nv), .int (iI mm), .ref fia, .ref sea, .int (iI (bZ true)), .ref sta, .ref lda, .ref vla, .int (iI (bZ gd2_4)), .int (iI fl2_5), .ref dia, .ref qua], ceI G fia 400 f1, ceI G sea 400 f2, ceZ G sta 25600 (fz S2_1), ceZ G lda 25600 (fz Ld2_2), ceI G vla 160 V2_3]) F zd_MO_value_34 zf_MO zt_MO_ok zn_MO 0 rfl rfl 0 (by decide) zw_756 rfl rfl rfl (Nat.le_of_ble_eq_true rfl) rfl ?_
        refine vv_aload_n F zd_MO_value_37 rfl 0 rfl ?_
        refine vv_get F zd_MO_value_38 zf_MO 0 rfl rfl 0 (by decide) zw_756 rfl ?_
        refine vv_if_le (tgt := 48) F zd_MO_value_41 rfl (by decide) (fun _ => ?_) (fun h9 => absurd h9 (by decide))
        refine vv_aload_n F zd_MO_value_48 rfl 0 rfl ?_
        refine vv_get F zd_MO_value_49 zf_MO 0 rfl rfl 18 (by decide) zw_774 rfl ?_
        refine vv_iload_n F zd_MO_value_52 rfl 1 rfl ?_
        refine vv_iconst F zd_MO_value_53 ?_
        refine vv_isub F zd_MO_value_54 ?_
        refine vv_iald F zd_MO_value_55 5 rfl ⟨by omega, by omega⟩ (by decide) ?_
        exact vv_iret F zd_MO_value_56 ⟨_, _, _, _, _, _, _, hf1_0, Or.inr (Or.inr ⟨⟨by omega, by omega⟩, h3, rfl, rfl⟩), rfl, rfl⟩
      · have h3 : gd2_4 = false := (bZ_0 _).mp h3
        refine vv_iconst F zd_MO_value_29 ?_
        refine vv_goto (tgt := 34) F zd_MO_value_30 rfl ?_
        refine vv_put (v := .int (iI 2)) (ws' := [ceO 7 mo [.int (iI 2), .int (iI n), .int (iI ac), .ref tha, .int (iI (bZ gk)), .ref rea, .ref poa, .int (iI mn), .ref cha, .ref goa, .ref lea, .int (iI nv), .int (iI mm), .ref fia, .ref sea, .int (iI (bZ true)), .ref sta, .ref lda, .ref vla, .int (iI (bZ gd2_4)), .int (iI fl2_5), .ref dia, .ref qua], ceI G fia 400 f1, ceI G sea 400 f2, ceZ G sta 25600 (fz S2_1), ceZ G lda 25600 (fz Ld2_2), ceI G vla 160 V2_3]) F zd_MO_value_34 zf_MO zt_MO_ok zn_MO 0 rfl rfl 0 (by decide) zw_756 rfl rfl rfl (Nat.le_of_ble_eq_true rfl) rfl ?_
        refine vv_aload_n F zd_MO_value_37 rfl 0 rfl ?_
        refine vv_get F zd_MO_value_38 zf_MO 0 rfl rfl 0 (by decide) zw_756 rfl ?_
        refine vv_if_le (tgt := 48) F zd_MO_value_41 rfl (by decide) (fun h9 => absurd h9 (by decide)) (fun _ => ?_)
        refine vv_iconst F zd_MO_value_44 ?_
        refine vv_goto (tgt := 56) F zd_MO_value_45 rfl ?_
        exact vv_iret F zd_MO_value_56 ⟨_, _, _, _, _, _, _, hf1_0, Or.inr (Or.inl ⟨⟨by omega, by omega⟩, h3, rfl, rfl⟩), rfl, rfl⟩
    · refine vv_iconst F zd_MO_value_18 ?_
      refine vv_goto (tgt := 34) F zd_MO_value_19 rfl ?_
      refine vv_put (v := .int (iI 1)) (ws' := [ceO 7 mo [.int (iI 1), .int (iI n), .int (iI ac), .ref tha, .int (iI (bZ gk)), .ref rea, .ref poa, .int (iI mn), .ref cha, .ref goa, .ref lea, .int (iI nv), .int (iI mm), .ref fia, .ref sea, .int (iI (bZ true)), .ref sta, .ref lda, .ref vla, .int (iI (bZ gd2_4)), .int (iI fl2_5), .ref dia, .ref qua], ceI G fia 400 f1, ceI G sea 400 f2, ceZ G sta 25600 (fz S2_1), ceZ G lda 25600 (fz Ld2_2), ceI G vla 160 V2_3]) F zd_MO_value_34 zf_MO zt_MO_ok zn_MO 0 rfl rfl 0 (by decide) zw_756 rfl rfl rfl (Nat.le_of_ble_eq_true rfl) rfl ?_
      refine vv_aload_n F zd_MO_value_37 rfl 0 rfl ?_
      refine vv_get F zd_MO_value_38 zf_MO 0 rfl rfl 0 (by decide) zw_756 rfl ?_
      refine vv_if_le (tgt := 48) F zd_MO_value_41 rfl (by decide) (fun h9 => absurd h9 (by decide)) (fun _ => ?_)
      refine vv_iconst F zd_MO_value_44 ?_
      refine vv_goto (tgt := 56) F zd_MO_value_45 rfl ?_
      exact vv_iret F zd_MO_value_56 ⟨_, _, _, _, _, _, _, hf1_0, Or.inl ⟨by omega, rfl, rfl⟩, rfl, rfl⟩

/-- what must be -/
def mfx (Ld : Nat → Nat → Bool) (u : Int) : Int := if Ld (2 * u - 2).toNat (opp (2 * u - 2).toNat) = true then 0 else if Ld (2 * u - 1).toNat (opp (2 * u - 1).toNat) = true then 1 else 2

set_option maxHeartbeats 4000000 in
set_option maxRecDepth 100000 in
theorem cn_MO_fixed (l : Launch) (G : vv_G) (mo : Nat) (th : Int) (n : Int) (ac : Int) (tha : Nat) (gk : Bool) (rea : Nat) (poa : Nat) (mn : Int) (cha : Nat) (goa : Nat) (lea : Nat) (nv : Int) (mm : Int) (fia : Nat) (sea : Nat) (ck : Bool) (sta : Nat) (lda : Nat) (vla : Nat) (gd : Bool) (fl : Int) (dia : Nat) (qua : Nat) (f1 : Nat → Int) (f2 : Nat → Int) (S : Nat → Nat → Bool) (Ld : Nat → Nat → Bool) (V : Nat → Int) (u : Int) (hv : 1 ≤ nv ∧ nv ≤ 80) (hm : 0 ≤ mm ∧ mm ≤ 400) (hf : ∀ j : Nat, (j : Int) < mm → ¬ nli nv (f1 j) ∧ ¬ nli nv (f2 j)) (hc : ck = true → mC nv mm f1 f2 S Ld V gd fl) (hu : rg u) :
    vv_C l zy_MO_fixed zc_MO_fixed 2 (some .int) { frames := 3, cells := 0, slots := 0, locals := 68 } G [.ref mo, .int (iI u)] [ceO 7 mo [.int (iI th), .int (iI n), .int (iI ac), .ref tha, .int (iI (bZ gk)), .ref rea, .ref poa, .int (iI mn), .ref cha, .ref goa, .ref lea, .int (iI nv), .int (iI mm), .ref fia, .ref sea, .int (iI (bZ ck)), .ref sta, .ref lda, .ref vla, .int (iI (bZ gd)), .int (iI fl), .ref dia, .ref qua], ceI G fia 400 f1, ceI G sea 400 f2, ceZ G sta 25600 (fz S), ceZ G lda 25600 (fz Ld), ceI G vla 160 V] (fun v7 w7 => ∃ (th2 : Int) (S2 : Nat → Nat → Bool) (Ld2 : Nat → Nat → Bool) (V2 : Nat → Int) (gd2 : Bool) (fl2 : Int) (z : Int), (mC nv mm f1 f2 S2 Ld2 V2 gd2 fl2) ∧ (((u < 1 ∨ nv < u) ∧ th2 = 1 ∧ z = 0) ∨ ((1 ≤ u ∧ u ≤ nv) ∧ gd2 = false ∧ th2 = 2 ∧ z = 0) ∨ ((1 ≤ u ∧ u ≤ nv) ∧ gd2 = true ∧ th2 = 0 ∧ z = mfx Ld2 u)) ∧ v7 = some (.int (iI z)) ∧ w7 = [ceO 7 mo [.int (iI th2), .int (iI n), .int (iI ac), .ref tha, .int (iI (bZ gk)), .ref rea, .ref poa, .int (iI mn), .ref cha, .ref goa, .ref lea, .int (iI nv), .int (iI mm), .ref fia, .ref sea, .int (iI (bZ true)), .ref sta, .ref lda, .ref vla, .int (iI (bZ gd2)), .int (iI fl2), .ref dia, .ref qua], ceI G fia 400 f1, ceI G sea 400 f2, ceZ G sta 25600 (fz S2), ceZ G lda 25600 (fz Ld2), ceI G vla 160 V2]) := by
  refine vv_met (by decide +kernel) (Nat.le_of_ble_eq_true rfl) rfl ?_
  intro p e s m args below meth c A F
  refine vv_aload_n F zd_MO_fixed_0 rfl 0 rfl ?_
  refine vv_callV (q0 := 0) (As := []) (rest := []) (wr := []) F (cn_MO_knowClauses l G mo th n ac tha gk rea poa mn cha goa lea nv mm fia sea ck sta lda vla gd fl dia qua f1 f2 S Ld V hv hm hf hc) zm_MO_knowClauses ⟨zw_941, zs_MO_knowClauses⟩ zw_939 zd_MO_fixed_1 ⟨by decide, by decide⟩ ⟨by decide, by decide⟩ [0, 1, 2, 3, 4, 5] [] rfl rfl ⟨rfl, rfl, by decide⟩ rfl rfl rfl rfl (Nat.le_of_ble_eq_true rfl) (fun v9 w9 hp9 => ?_)
  obtain ⟨S2_1, Ld2_2, V2_3, gd2_4, fl2_5, hf1_0, rfl, rfl⟩ := hp9
  refine vv_thenE (ws' := [ceO 7 mo [.int (iI th), .int (iI n), .int (iI ac), .ref tha, .int (iI (bZ gk)), .ref rea, .ref poa, .int (iI mn), .ref cha, .ref goa, .ref lea, .int (iI nv), .int (iI mm), .ref fia, .ref sea, .int (iI (bZ true)), .ref sta, .ref lda, .ref vla, .int (iI (bZ gd2_4)), .int (iI fl2_5), .ref dia, .ref qua], ceI G fia 400 f1, ceI G sea 400 f2, ceZ G sta 25600 (fz S2_1), ceZ G lda 25600 (fz Ld2_2), ceI G vla 160 V2_3]) (st' := []) (kc' := 0) (ks' := 0) [0, 1, 2, 3, 4, 5] rfl rfl rfl ?_
  have hfr := fai_rg hf1_0.2.2.1
  refine vv_aload_n F zd_MO_fixed_4 rfl 0 rfl ?_
  refine vv_iload_n F zd_MO_fixed_5 rfl 1 rfl ?_
  refine vv_iconst F zd_MO_fixed_6 ?_
  refine vv_icmp_lt (tgt := 18) F zd_MO_fixed_7 rfl (by first | exact ⟨by omega, by omega⟩ | exact hu) (by decide) (fun h1 => ?_) (fun h1 => ?_)
  · refine vv_iconst F zd_MO_fixed_18 ?_
    refine vv_goto (tgt := 34) F zd_MO_fixed_19 rfl ?_
    refine vv_put (v := .int (iI 1)) (ws' := [ceO 7 mo [.int (iI 1), .int (iI n), .int (iI ac), .ref tha, .int (iI (bZ gk)), .ref rea, .ref poa, .int (iI mn), .ref cha, .ref goa, .ref lea, .int (iI nv), .int (iI mm), .ref fia, .ref sea, .int (iI (bZ true)), .ref sta, .ref lda, .ref vla, .int (iI (bZ gd2_4)), .int (iI fl2_5), .ref dia, .ref qua], ceI G fia 400 f1, ceI G sea 400 f2, ceZ G sta 25600 (fz S2_1), ceZ G lda 25600 (fz Ld2_2), ceI G vla 160 V2_3]) F zd_MO_fixed_34 zf_MO zt_MO_ok zn_MO 0 rfl rfl 0 (by decide) zw_756 rfl rfl rfl (Nat.le_of_ble_eq_true rfl) rfl ?_
    refine vv_aload_n F zd_MO_fixed_37 rfl 0 rfl ?_
    refine vv_get F zd_MO_fixed_38 zf_MO 0 rfl rfl 0 (by decide) zw_756 rfl ?_
    refine vv_if_le (tgt := 46) F zd_MO_fixed_41 rfl (by decide) (fun h9 => absurd h9 (by decide)) (fun _ => ?_)
    refine vv_iconst F zd_MO_fixed_44 ?_
    exact vv_iret F zd_MO_fixed_45 ⟨_, _, _, _, _, _, _, hf1_0, Or.inl ⟨by omega, rfl, rfl⟩, rfl, rfl⟩
  · refine vv_iload_n F zd_MO_fixed_10 rfl 1 rfl ?_
    refine vv_aload_n F zd_MO_fixed_11 rfl 0 rfl ?_
    refine vv_get F zd_MO_fixed_12 zf_MO 0 rfl rfl 11 (by decide) zw_767 rfl ?_
    refine vv_icmp_le (tgt := 22) F zd_MO_fixed_15 rfl (by first | exact ⟨by omega, by omega⟩ | exact hu) (by first | exact ⟨by omega, by omega⟩ | exact hu) (fun h2 => ?_) (fun h2 => ?_)
    · refine vv_aload_n F zd_MO_fixed_22 rfl 0 rfl ?_
      refine vv_get F zd_MO_fixed_23 zf_MO 0 rfl rfl 19 (by decide) zw_775 rfl ?_
      refine vv_if_ne (tgt := 33) F zd_MO_fixed_26 rfl (bZ_rg _) (fun h3 => ?_) (fun h3 => ?_)
      · have h3 : gd2_4 = true := by cases hb9 : gd2_4 with | true => rfl | false => exact absurd ((bZ_0 _).mpr hb9) h3
        refine vv_iconst F zd_MO_fixed_33 ?_
        refine vv_put (v := .int (iI 0)) (ws' := [ceO 7 mo [.int (iI 0), .int (iI n), .int (iI ac), .ref tha, .int (iI (bZ gk)), .ref rea, .ref poa, .int (iI mn), .ref cha, .ref goa, .ref lea, .int (iI nv), .int (iI mm), .ref fia, .ref sea, .int (iI (bZ true)), .ref sta, .ref lda, .ref vla, .int (iI (bZ gd2_4)), .int (iI fl2_5), .ref dia, .ref qua], ceI G fia 400 f1, ceI G sea 400 f2, ceZ G sta 25600 (fz S2_1), ceZ G lda 25600 (fz Ld2_2), ceI G vla 160 V2_3]) F zd_MO_fixed_34 zf_MO zt_MO_ok zn_MO 0 rfl rfl 0 (by decide) zw_756 rfl rfl rfl (Nat.le_of_ble_eq_true rfl) rfl ?_
        refine vv_aload_n F zd_MO_fixed_37 rfl 0 rfl ?_
        refine vv_get F zd_MO_fixed_38 zf_MO 0 rfl rfl 0 (by decide) zw_756 rfl ?_
        refine vv_if_le (tgt := 46) F zd_MO_fixed_41 rfl (by decide) (fun _ => ?_) (fun h9 => absurd h9 (by decide))
        refine vv_aload_n F zd_MO_fixed_46 rfl 0 rfl ?_
        refine vv_iconst F zd_MO_fixed_47 ?_
        refine vv_iload_n F zd_MO_fixed_48 rfl 1 rfl ?_
        refine vv_imul F zd_MO_fixed_49 ?_
        refine vv_iconst F zd_MO_fixed_50 ?_
        refine vv_isub F zd_MO_fixed_51 ?_
        refine vv_callV (q0 := 0) (As := [.int (iI ((2 * u) - 2))]) (rest := []) (wr := [ceI G fia 400 f1, ceI G sea 400 f2, ceZ G sta 25600 (fz S2_1), ceI G vla 160 V2_3]) F (cn_MO_isNever l G mo 0 n ac tha gk rea poa mn cha goa lea nv mm fia sea true sta lda vla gd2_4 fl2_5 dia qua Ld2_2 ((2 * u) - 2) ⟨by omega, by omega⟩) zm_MO_isNever ⟨zw_967, zs_MO_isNever⟩ zw_965 zd_MO_fixed_52 ⟨by decide, by decide⟩ ⟨by decide, by decide⟩ [0, 4] [1, 2, 3, 5] rfl rfl ⟨rfl, rfl, by decide⟩ rfl rfl rfl rfl (Nat.le_of_ble_eq_true rfl) (vv_then (ws' := [ceO 7 mo [.int (iI 0), .int (iI n), .int (iI ac), .ref tha, .int (iI (bZ gk)), .ref rea, .ref poa, .int (iI mn), .ref cha, .ref goa, .ref lea, .int (iI nv), .int (iI mm), .ref fia, .ref sea, .int (iI (bZ true)), .ref sta, .ref lda, .ref vla, .int (iI (bZ gd2_4)), .int (iI fl2_5), .ref dia, .ref qua], ceI G fia 400 f1, ceI G sea 400 f2, ceZ G sta 25600 (fz S2_1), ceZ G lda 25600 (fz Ld2_2), ceI G vla 160 V2_3]) (st' := [.int (iI (bZ (Ld2_2 ((2 * u) - 2).toNat (opp ((2 * u) - 2).toNat))))]) [4, 0, 1, 2, 5, 3] rfl rfl rfl ?_)
        refine vv_if_eq (tgt := 62) F zd_MO_fixed_55 rfl (bZ_rg _) (fun h4 => ?_) (fun h4 => ?_)
        · have h4 : (Ld2_2 ((2 * u) - 2).toNat (opp ((2 * u) - 2).toNat)) = false := (bZ_0 _).mp h4
          refine vv_aload_n F zd_MO_fixed_62 rfl 0 rfl ?_
          refine vv_iconst F zd_MO_fixed_63 ?_
          refine vv_iload_n F zd_MO_fixed_64 rfl 1 rfl ?_
          refine vv_imul F zd_MO_fixed_65 ?_
          refine vv_iconst F zd_MO_fixed_66 ?_
          refine vv_isub F zd_MO_fixed_67 ?_
          refine vv_callV (q0 := 0) (As := [.int (iI ((2 * u) - 1))]) (rest := []) (wr := [ceI G fia 400 f1, ceI G sea 400 f2, ceZ G sta 25600 (fz S2_1), ceI G vla 160 V2_3]) F (cn_MO_isNever l G mo 0 n ac tha gk rea poa mn cha goa lea nv mm fia sea true sta lda vla gd2_4 fl2_5 dia qua Ld2_2 ((2 * u) - 1) ⟨by omega, by omega⟩) zm_MO_isNever ⟨zw_967, zs_MO_isNever⟩ zw_965 zd_MO_fixed_68 ⟨by decide, by decide⟩ ⟨by decide, by decide⟩ [0, 4] [1, 2, 3, 5] rfl rfl ⟨rfl, rfl, by decide⟩ rfl rfl rfl rfl (Nat.le_of_ble_eq_true rfl) (vv_then (ws' := [ceO 7 mo [.int (iI 0), .int (iI n), .int (iI ac), .ref tha, .int (iI (bZ gk)), .ref rea, .ref poa, .int (iI mn), .ref cha, .ref goa, .ref lea, .int (iI nv), .int (iI mm), .ref fia, .ref sea, .int (iI (bZ true)), .ref sta, .ref lda, .ref vla, .int (iI (bZ gd2_4)), .int (iI fl2_5), .ref dia, .ref qua], ceI G fia 400 f1, ceI G sea 400 f2, ceZ G sta 25600 (fz S2_1), ceZ G lda 25600 (fz Ld2_2), ceI G vla 160 V2_3]) (st' := [.int (iI (bZ (Ld2_2 ((2 * u) - 1).toNat (opp ((2 * u) - 1).toNat))))]) [4, 0, 1, 2, 5, 3] rfl rfl rfl ?_)
          refine vv_if_eq (tgt := 78) F zd_MO_fixed_71 rfl (bZ_rg _) (fun h5 => ?_) (fun h5 => ?_)
          · have h5 : (Ld2_2 ((2 * u) - 1).toNat (opp ((2 * u) - 1).toNat)) = false := (bZ_0 _).mp h5
            refine vv_iconst F zd_MO_fixed_78 ?_
            exact vv_iret F zd_MO_fixed_79 ⟨_, _, _, _, _, _, _, hf1_0, Or.inr (Or.inr ⟨⟨by omega, by omega⟩, h3, rfl, by unfold mfx; rw [h4, h5]; rfl⟩), rfl, rfl⟩
          · have h5 : (Ld2_2 ((2 * u) - 1).toNat (opp ((2 * u) - 1).toNat)) = true := by cases hb9 : (Ld2_2 ((2 * u) - 1).toNat (opp ((2 * u) - 1).toNat)) with | true => rfl | false => exact absurd ((bZ_0 _).mpr hb9) h5
            refine vv_iconst F zd_MO_fixed_74 ?_
            refine vv_goto (tgt := 79) F zd_MO_fixed_75 rfl ?_
            exact vv_iret F zd_MO_fixed_79 ⟨_, _, _, _, _, _, _, hf1_0, Or.inr (Or.inr ⟨⟨by omega, by omega⟩, h3, rfl, by unfold mfx; rw [h4, h5]; rfl⟩), rfl, rfl⟩
        · have h4 : (Ld2_2 ((2 * u) - 2).toNat (opp ((2 * u) - 2).toNat)) = true := by cases hb9 : (Ld2_2 ((2 * u) - 2).toNat (opp ((2 * u) - 2).toNat)) with | true => rfl | false => exact absurd ((bZ_0 _).mpr hb9) h4
          refine vv_iconst F zd_MO_fixed_58 ?_
          refine vv_goto (tgt := 79) F zd_MO_fixed_59 rfl ?_
          exact vv_iret F zd_MO_fixed_79 ⟨_, _, _, _, _, _, _, hf1_0, Or.inr (Or.inr ⟨⟨by omega, by omega⟩, h3, rfl, by unfold mfx; rw [h4]; rfl⟩), rfl, rfl⟩
      · have h3 : gd2_4 = false := (bZ_0 _).mp h3
        refine vv_iconst F zd_MO_fixed_29 ?_
        refine vv_goto (tgt := 34) F zd_MO_fixed_30 rfl ?_
        refine vv_put (v := .int (iI 2)) (ws' := [ceO 7 mo [.int (iI 2), .int (iI n), .int (iI ac), .ref tha, .int (iI (bZ gk)), .ref rea, .ref poa, .int (iI mn), .ref cha, .ref goa, .ref lea, .int (iI nv), .int (iI mm), .ref fia, .ref sea, .int (iI (bZ true)), .ref sta, .ref lda, .ref vla, .int (iI (bZ gd2_4)), .int (iI fl2_5), .ref dia, .ref qua], ceI G fia 400 f1, ceI G sea 400 f2, ceZ G sta 25600 (fz S2_1), ceZ G lda 25600 (fz Ld2_2), ceI G vla 160 V2_3]) F zd_MO_fixed_34 zf_MO zt_MO_ok zn_MO 0 rfl rfl 0 (by decide) zw_756 rfl rfl rfl (Nat.le_of_ble_eq_true rfl) rfl ?_
        refine vv_aload_n F zd_MO_fixed_37 rfl 0 rfl ?_
        refine vv_get F zd_MO_fixed_38 zf_MO 0 rfl rfl 0 (by decide) zw_756 rfl ?_
        refine vv_if_le (tgt := 46) F zd_MO_fixed_41 rfl (by decide) (fun h9 => absurd h9 (by decide)) (fun _ => ?_)
        refine vv_iconst F zd_MO_fixed_44 ?_
        exact vv_iret F zd_MO_fixed_45 ⟨_, _, _, _, _, _, _, hf1_0, Or.inr (Or.inl ⟨⟨by omega, by omega⟩, h3, rfl, rfl⟩), rfl, rfl⟩
    · refine vv_iconst F zd_MO_fixed_18 ?_
      refine vv_goto (tgt := 34) F zd_MO_fixed_19 rfl ?_
      refine vv_put (v := .int (iI 1)) (ws' := [ceO 7 mo [.int (iI 1), .int (iI n), .int (iI ac), .ref tha, .int (iI (bZ gk)), .ref rea, .ref poa, .int (iI mn), .ref cha, .ref goa, .ref lea, .int (iI nv), .int (iI mm), .ref fia, .ref sea, .int (iI (bZ true)), .ref sta, .ref lda, .ref vla, .int (iI (bZ gd2_4)), .int (iI fl2_5), .ref dia, .ref qua], ceI G fia 400 f1, ceI G sea 400 f2, ceZ G sta 25600 (fz S2_1), ceZ G lda 25600 (fz Ld2_2), ceI G vla 160 V2_3]) F zd_MO_fixed_34 zf_MO zt_MO_ok zn_MO 0 rfl rfl 0 (by decide) zw_756 rfl rfl rfl (Nat.le_of_ble_eq_true rfl) rfl ?_
      refine vv_aload_n F zd_MO_fixed_37 rfl 0 rfl ?_
      refine vv_get F zd_MO_fixed_38 zf_MO 0 rfl rfl 0 (by decide) zw_756 rfl ?_
      refine vv_if_le (tgt := 46) F zd_MO_fixed_41 rfl (by decide) (fun h9 => absurd h9 (by decide)) (fun _ => ?_)
      refine vv_iconst F zd_MO_fixed_44 ?_
      exact vv_iret F zd_MO_fixed_45 ⟨_, _, _, _, _, _, _, hf1_0, Or.inl ⟨by omega, rfl, rfl⟩, rfl, rfl⟩

set_option maxHeartbeats 4000000 in
set_option maxRecDepth 100000 in
theorem cn_MO_implies (l : Launch) (G : vv_G) (mo : Nat) (th : Int) (n : Int) (ac : Int) (tha : Nat) (gk : Bool) (rea : Nat) (poa : Nat) (mn : Int) (cha : Nat) (goa : Nat) (lea : Nat) (nv : Int) (mm : Int) (fia : Nat) (sea : Nat) (ck : Bool) (sta : Nat) (lda : Nat) (vla : Nat) (gd : Bool) (fl : Int) (dia : Nat) (qua : Nat) (f1 : Nat → Int) (f2 : Nat → Int) (S : Nat → Nat → Bool) (Ld : Nat → Nat → Bool) (V : Nat → Int) (u : Int) (v : Int) (hv : 1 ≤ nv ∧ nv ≤ 80) (hm : 0 ≤ mm ∧ mm ≤ 400) (hf : ∀ j : Nat, (j : Int) < mm → ¬ nli nv (f1 j) ∧ ¬ nli nv (f2 j)) (hc : ck = true → mC nv mm f1 f2 S Ld V gd fl) (hu : rg u) (hw : rg v) :
    vv_C l zy_MO_implies zc_MO_implies 3 (some .boolean) { frames := 3, cells := 0, slots := 0, locals := 68 } G [.ref mo, .int (iI u), .int (iI v)] [ceO 7 mo [.int (iI th), .int (iI n), .int (iI ac), .ref tha, .int (iI (bZ gk)), .ref rea, .ref poa, .int (iI mn), .ref cha, .ref goa, .ref lea, .int (iI nv), .int (iI mm), .ref fia, .ref sea, .int (iI (bZ ck)), .ref sta, .ref lda, .ref vla, .int (iI (bZ gd)), .int (iI fl), .ref dia, .ref qua], ceI G fia 400 f1, ceI G sea 400 f2, ceZ G sta 25600 (fz S), ceZ G lda 25600 (fz Ld), ceI G vla 160 V] (fun v7 w7 => ∃ (th2 : Int) (S2 : Nat → Nat → Bool) (Ld2 : Nat → Nat → Bool) (V2 : Nat → Int) (gd2 : Bool) (fl2 : Int) (z : Bool), (mC nv mm f1 f2 S2 Ld2 V2 gd2 fl2) ∧ (((nli nv u ∨ nli nv v) ∧ th2 = 1 ∧ z = false) ∨ ((¬ nli nv u ∧ ¬ nli nv v) ∧ gd2 = false ∧ th2 = 2 ∧ z = false) ∨ ((¬ nli nv u ∧ ¬ nli nv v) ∧ gd2 = true ∧ th2 = 0 ∧ z = mfo Ld2 (ptO u).toNat (ptO v).toNat)) ∧ v7 = some (.int (iI (bZ z))) ∧ w7 = [ceO 7 mo [.int (iI th2), .int (iI n), .int (iI ac), .ref tha, .int (iI (bZ gk)), .ref rea, .ref poa, .int (iI mn), .ref cha, .ref goa, .ref lea, .int (iI nv), .int (iI mm), .ref fia, .ref sea, .int (iI (bZ true)), .ref sta, .ref lda, .ref vla, .int (iI (bZ gd2)), .int (iI fl2), .ref dia, .ref qua], ceI G fia 400 f1, ceI G sea 400 f2, ceZ G sta 25600 (fz S2), ceZ G lda 25600 (fz Ld2), ceI G vla 160 V2]) := by
  refine vv_met (by decide +kernel) (Nat.le_of_ble_eq_true rfl) rfl ?_
  intro p e s m args below meth c A F
  refine vv_aload_n F zd_MO_implies_0 rfl 0 rfl ?_
  refine vv_callV (q0 := 0) (As := []) (rest := []) (wr := []) F (cn_MO_knowClauses l G mo th n ac tha gk rea poa mn cha goa lea nv mm fia sea ck sta lda vla gd fl dia qua f1 f2 S Ld V hv hm hf hc) zm_MO_knowClauses ⟨zw_941, zs_MO_knowClauses⟩ zw_939 zd_MO_implies_1 ⟨by decide, by decide⟩ ⟨by decide, by decide⟩ [0, 1, 2, 3, 4, 5] [] rfl rfl ⟨rfl, rfl, by decide⟩ rfl rfl rfl rfl (Nat.le_of_ble_eq_true rfl) (fun v9 w9 hp9 => ?_)
  obtain ⟨S2_1, Ld2_2, V2_3, gd2_4, fl2_5, hf1_0, rfl, rfl⟩ := hp9
  refine vv_thenE (ws' := [ceO 7 mo [.int (iI th), .int (iI n), .int (iI ac), .ref tha, .int (iI (bZ gk)), .ref rea, .ref poa, .int (iI mn), .ref cha, .ref goa, .ref lea, .int (iI nv), .int (iI mm), .ref fia, .ref sea, .int (iI (bZ true)), .ref sta, .ref lda, .ref vla, .int (iI (bZ gd2_4)), .int (iI fl2_5), .ref dia, .ref qua], ceI G fia 400 f1, ceI G sea 400 f2, ceZ G sta 25600 (fz S2_1), ceZ G lda 25600 (fz Ld2_2), ceI G vla 160 V2_3]) (st' := []) (kc' := 0) (ks' := 0) [0, 1, 2, 3, 4, 5] rfl rfl rfl ?_
  have hfr := fai_rg hf1_0.2.2.1
  refine vv_aload_n F zd_MO_implies_4 rfl 0 rfl ?_
  refine vv_aload_n F zd_MO_implies_5 rfl 0 rfl ?_
  refine vv_iload_n F zd_MO_implies_6 rfl 1 rfl ?_
  refine vv_callV (q0 := 0) (As := [.int (iI u)]) (rest := [.ref mo]) (wr := [ceI G fia 400 f1, ceI G sea 400 f2, ceZ G sta 25600 (fz S2_1), ceZ G lda 25600 (fz Ld2_2), ceI G vla 160 V2_3]) F (cn_MO_noLiteral l G mo th n ac tha gk rea poa mn cha goa lea nv mm fia sea true sta lda vla gd2_4 fl2_5 dia qua u hu ⟨by omega, by omega⟩) zm_MO_noLiteral ⟨zw_929, zs_MO_noLiteral⟩ zw_927 zd_MO_implies_7 ⟨by decide, by decide⟩ ⟨by decide, by decide⟩ [0] [1, 2, 3, 4, 5] rfl rfl ⟨rfl, rfl, by decide⟩ rfl rfl rfl rfl (Nat.le_of_ble_eq_true rfl) (vv_then (ws' := [ceO 7 mo [.int (iI th), .int (iI n), .int (iI ac), .ref tha, .int (iI (bZ gk)), .ref rea, .ref poa, .int (iI mn), .ref cha, .ref goa, .ref lea, .int (iI nv), .int (iI mm), .ref fia, .ref sea, .int (iI (bZ true)), .ref sta, .ref lda, .ref vla, .int (iI (bZ gd2_4)), .int (iI fl2_5), .ref dia, .ref qua], ceI G fia 400 f1, ceI G sea 400 f2, ceZ G sta 25600 (fz S2_1), ceZ G lda 25600 (fz Ld2_2), ceI G vla 160 V2_3]) (st' := [.int (iI (bZ (decide (u = 0 ∨ u < -nv ∨ nv < u)))), .ref mo]) [5, 0, 1, 2, 3, 4] rfl rfl rfl ?_)
  refine vv_if_ne (tgt := 21) F zd_MO_implies_10 rfl (bZ_rg _) (fun h1 => ?_) (fun h1 => ?_)
  · have h1 : (decide (u = 0 ∨ u < -nv ∨ nv < u)) = true := by cases hb9 : (decide (u = 0 ∨ u < -nv ∨ nv < u)) with | true => rfl | false => exact absurd ((bZ_0 _).mpr hb9) h1
    have h1 := of_decide_eq_true h1
    refine vv_iconst F zd_MO_implies_21 ?_
    refine vv_goto (tgt := 37) F zd_MO_implies_22 rfl ?_
    refine vv_put (v := .int (iI 1)) (ws' := [ceO 7 mo [.int (iI 1), .int (iI n), .int (iI ac), .ref tha, .int (iI (bZ gk)), .ref rea, .ref poa, .int (iI mn), .ref cha, .ref goa, .ref lea, .int (iI nv), .int (iI mm), .ref fia, .ref sea, .int (iI (bZ true)), .ref sta, .ref lda, .ref vla, .int (iI (bZ gd2_4)), .int (iI fl2_5), .ref dia, .ref qua], ceI G fia 400 f1, ceI G sea 400 f2, ceZ G sta 25600 (fz S2_1), ceZ G lda 25600 (fz Ld2_2), ceI G vla 160 V2_3]) F zd_MO_implies_37 zf_MO zt_MO_ok zn_MO 0 rfl rfl 0 (by decide) zw_756 rfl rfl rfl (Nat.le_of_ble_eq_true rfl) rfl ?_
    refine vv_aload_n F zd_MO_implies_40 rfl 0 rfl ?_
    refine vv_get F zd_MO_implies_41 zf_MO 0 rfl rfl 0 (by decide) zw_756 rfl ?_
    refine vv_if_ne (tgt := 66) F zd_MO_implies_44 rfl (by decide) (fun _ => ?_) (fun h9 => absurd h9 (by decide))
    refine vv_iconst F zd_MO_implies_66 ?_
    exact vv_zret (v := false) F zd_MO_implies_67 ⟨_, _, _, _, _, _, false, hf1_0, Or.inl ⟨by unfold nli; omega, rfl, rfl⟩, rfl, rfl⟩
  · have h1 : (decide (u = 0 ∨ u < -nv ∨ nv < u)) = false := (bZ_0 _).mp h1
    have h1 := of_decide_eq_false h1
    refine vv_aload_n F zd_MO_implies_13 rfl 0 rfl ?_
    refine vv_iload_n F zd_MO_implies_14 rfl 2 rfl ?_
    refine vv_callV (q0 := 0) (As := [.int (iI v)]) (rest := [.ref mo]) (wr := [ceI G fia 400 f1, ceI G sea 400 f2, ceZ G sta 25600 (fz S2_1), ceZ G lda 25600 (fz Ld2_2), ceI G vla 160 V2_3]) F (cn_MO_noLiteral l G mo th n ac tha gk rea poa mn cha goa lea nv mm fia sea true sta lda vla gd2_4 fl2_5 dia qua v hw ⟨by omega, by omega⟩) zm_MO_noLiteral ⟨zw_929, zs_MO_noLiteral⟩ zw_927 zd_MO_implies_15 ⟨by decide, by decide⟩ ⟨by decide, by decide⟩ [0] [1, 2, 3, 4, 5] rfl rfl ⟨rfl, rfl, by decide⟩ rfl rfl rfl rfl (Nat.le_of_ble_eq_true rfl) (vv_then (ws' := [ceO 7 mo [.int (iI th), .int (iI n), .int (iI ac), .ref tha, .int (iI (bZ gk)), .ref rea, .ref poa, .int (iI mn), .ref cha, .ref goa, .ref lea, .int (iI nv), .int (iI mm), .ref fia, .ref sea, .int (iI (bZ true)), .ref sta, .ref lda, .ref vla, .int (iI (bZ gd2_4)), .int (iI fl2_5), .ref dia, .ref qua], ceI G fia 400 f1, ceI G sea 400 f2, ceZ G sta 25600 (fz S2_1), ceZ G lda 25600 (fz Ld2_2), ceI G vla 160 V2_3]) (st' := [.int (iI (bZ (decide (v = 0 ∨ v < -nv ∨ nv < v)))), .ref mo]) [5, 0, 1, 2, 3, 4] rfl rfl rfl ?_)
    refine vv_if_eq (tgt := 25) F zd_MO_implies_18 rfl (bZ_rg _) (fun h2 => ?_) (fun h2 => ?_)
    · have h2 : (decide (v = 0 ∨ v < -nv ∨ nv < v)) = false := (bZ_0 _).mp h2
      have h2 := of_decide_eq_false h2
      refine vv_aload_n F zd_MO_implies_25 rfl 0 rfl ?_
      refine vv_get F zd_MO_implies_26 zf_MO 0 rfl rfl 19 (by decide) zw_775 rfl ?_
      refine vv_if_ne (tgt := 36) F zd_MO_implies_29 rfl (bZ_rg _) (fun h3 => ?_) (fun h3 => ?_)
      · have h3 : gd2_4 = true := by cases hb9 : gd2_4 with | true => rfl | false => exact absurd ((bZ_0 _).mpr hb9) h3
        refine vv_iconst F zd_MO_implies_36 ?_
        refine vv_put (v := .int (iI 0)) (ws' := [ceO 7 mo [.int (iI 0), .int (iI n), .int (iI ac), .ref tha, .int (iI (bZ gk)), .ref rea, .ref poa, .int (iI mn), .ref cha, .ref goa, .ref lea, .int (iI nv), .int (iI mm), .ref fia, .ref sea, .int (iI (bZ true)), .ref sta, .ref lda, .ref vla, .int (iI (bZ gd2_4)), .int (iI fl2_5), .ref dia, .ref qua], ceI G fia 400 f1, ceI G sea 400 f2, ceZ G sta 25600 (fz S2_1), ceZ G lda 25600 (fz Ld2_2), ceI G vla 160 V2_3]) F zd_MO_implies_37 zf_MO zt_MO_ok zn_MO 0 rfl rfl 0 (by decide) zw_756 rfl rfl rfl (Nat.le_of_ble_eq_true rfl) rfl ?_
        refine vv_aload_n F zd_MO_implies_40 rfl 0 rfl ?_
        refine vv_get F zd_MO_implies_41 zf_MO 0 rfl rfl 0 (by decide) zw_756 rfl ?_
        refine vv_if_ne (tgt := 66) F zd_MO_implies_44 rfl (by decide) (fun h9 => absurd h9 (by decide)) (fun _ => ?_)
        refine vv_aload_n F zd_MO_implies_47 rfl 0 rfl ?_
        refine vv_iload_n F zd_MO_implies_48 rfl 1 rfl ?_
        refine vv_callS (As := [.int (iI u)]) (rest := [.ref mo]) (wr := [ceO 7 mo [.int (iI 0), .int (iI n), .int (iI ac), .ref tha, .int (iI (bZ gk)), .ref rea, .ref poa, .int (iI mn), .ref cha, .ref goa, .ref lea, .int (iI nv), .int (iI mm), .ref fia, .ref sea, .int (iI (bZ true)), .ref sta, .ref lda, .ref vla, .int (iI (bZ gd2_4)), .int (iI fl2_5), .ref dia, .ref qua], ceI G fia 400 f1, ceI G sea 400 f2, ceZ G sta 25600 (fz S2_1), ceZ G lda 25600 (fz Ld2_2), ceI G vla 160 V2_3]) F (cn_MO_literal l G u ⟨by omega, by omega⟩) zm_MO_literal zw_944 zw_943 zd_MO_implies_49 ⟨by decide, by decide⟩ ⟨by decide, by decide⟩ [] [0, 1, 2, 3, 4, 5] rfl rfl ⟨rfl, rfl, by decide⟩ rfl rfl (Nat.le_of_ble_eq_true rfl) (vv_then (ws' := [ceO 7 mo [.int (iI 0), .int (iI n), .int (iI ac), .ref tha, .int (iI (bZ gk)), .ref rea, .ref poa, .int (iI mn), .ref cha, .ref goa, .ref lea, .int (iI nv), .int (iI mm), .ref fia, .ref sea, .int (iI (bZ true)), .ref sta, .ref lda, .ref vla, .int (iI (bZ gd2_4)), .int (iI fl2_5), .ref dia, .ref qua], ceI G fia 400 f1, ceI G sea 400 f2, ceZ G sta 25600 (fz S2_1), ceZ G lda 25600 (fz Ld2_2), ceI G vla 160 V2_3]) (st' := [.int (iI (ptO u)), .ref mo]) [0, 1, 2, 3, 4, 5] rfl rfl rfl ?_)
        refine vv_iload_n F zd_MO_implies_52 rfl 2 rfl ?_
        refine vv_callS (As := [.int (iI v)]) (rest := [.int (iI (ptO u)), .ref mo]) (wr := [ceO 7 mo [.int (iI 0), .int (iI n), .int (iI ac), .ref tha, .int (iI (bZ gk)), .ref rea, .ref poa, .int (iI mn), .ref cha, .ref goa, .ref lea, .int (iI nv), .int (iI mm), .ref fia, .ref sea, .int (iI (bZ true)), .ref sta, .ref lda, .ref vla, .int (iI (bZ gd2_4)), .int (iI fl2_5), .ref dia, .ref qua], ceI G fia 400 f1, ceI G sea 400 f2, ceZ G sta 25600 (fz S2_1), ceZ G lda 25600 (fz Ld2_2), ceI G vla 160 V2_3]) F (cn_MO_literal l G v ⟨by omega, by omega⟩) zm_MO_literal zw_944 zw_943 zd_MO_implies_53 ⟨by decide, by decide⟩ ⟨by decide, by decide⟩ [] [0, 1, 2, 3, 4, 5] rfl rfl ⟨rfl, rfl, by decide⟩ rfl rfl (Nat.le_of_ble_eq_true rfl) (vv_then (ws' := [ceO 7 mo [.int (iI 0), .int (iI n), .int (iI ac), .ref tha, .int (iI (bZ gk)), .ref rea, .ref poa, .int (iI mn), .ref cha, .ref goa, .ref lea, .int (iI nv), .int (iI mm), .ref fia, .ref sea, .int (iI (bZ true)), .ref sta, .ref lda, .ref vla, .int (iI (bZ gd2_4)), .int (iI fl2_5), .ref dia, .ref qua], ceI G fia 400 f1, ceI G sea 400 f2, ceZ G sta 25600 (fz S2_1), ceZ G lda 25600 (fz Ld2_2), ceI G vla 160 V2_3]) (st' := [.int (iI (ptO v)), .int (iI (ptO u)), .ref mo]) [0, 1, 2, 3, 4, 5] rfl rfl rfl ?_)
        have e3 : 0 ≤ ptO u ∧ ptO u < 160 := by unfold ptO; split <;> omega
        have e4 : 0 ≤ ptO v ∧ ptO v < 160 := by unfold ptO; split <;> omega
        refine vv_callV (q0 := 0) (As := [.int (iI (ptO u)), .int (iI (ptO v))]) (rest := []) (wr := [ceI G fia 400 f1, ceI G sea 400 f2, ceZ G sta 25600 (fz S2_1), ceI G vla 160 V2_3]) F (cn_MO_follows l G mo 0 n ac tha gk rea poa mn cha goa lea nv mm fia sea true sta lda vla gd2_4 fl2_5 dia qua Ld2_2 (ptO u) (ptO v) e3 e4) zm_MO_follows ⟨zw_975, zs_MO_follows⟩ zw_973 zd_MO_implies_56 ⟨by decide, by decide⟩ ⟨by decide, by decide⟩ [0, 4] [1, 2, 3, 5] rfl rfl ⟨rfl, rfl, by decide⟩ rfl rfl rfl rfl (Nat.le_of_ble_eq_true rfl) (vv_then (ws' := [ceO 7 mo [.int (iI 0), .int (iI n), .int (iI ac), .ref tha, .int (iI (bZ gk)), .ref rea, .ref poa, .int (iI mn), .ref cha, .ref goa, .ref lea, .int (iI nv), .int (iI mm), .ref fia, .ref sea, .int (iI (bZ true)), .ref sta, .ref lda, .ref vla, .int (iI (bZ gd2_4)), .int (iI fl2_5), .ref dia, .ref qua], ceI G fia 400 f1, ceI G sea 400 f2, ceZ G sta 25600 (fz S2_1), ceZ G lda 25600 (fz Ld2_2), ceI G vla 160 V2_3]) (st' := [.int (iI (bZ (mfo Ld2_2 (ptO u).toNat (ptO v).toNat)))]) [4, 0, 1, 2, 5, 3] rfl rfl rfl ?_)
        refine vv_if_eq (tgt := 66) F zd_MO_implies_59 rfl (bZ_rg _) (fun h4 => ?_) (fun h4 => ?_)
        · have h4 : (mfo Ld2_2 (ptO u).toNat (ptO v).toNat) = false := (bZ_0 _).mp h4
          refine vv_iconst F zd_MO_implies_66 ?_
          exact vv_zret (v := false) F zd_MO_implies_67 ⟨_, _, _, _, _, _, false, hf1_0, Or.inr (Or.inr ⟨⟨by unfold nli; omega, by unfold nli; omega⟩, h3, rfl, h4.symm⟩), rfl, rfl⟩
        · have h4 : (mfo Ld2_2 (ptO u).toNat (ptO v).toNat) = true := by cases hb9 : (mfo Ld2_2 (ptO u).toNat (ptO v).toNat) with | true => rfl | false => exact absurd ((bZ_0 _).mpr hb9) h4
          refine vv_iconst F zd_MO_implies_62 ?_
          refine vv_goto (tgt := 67) F zd_MO_implies_63 rfl ?_
          exact vv_zret (v := true) F zd_MO_implies_67 ⟨_, _, _, _, _, _, true, hf1_0, Or.inr (Or.inr ⟨⟨by unfold nli; omega, by unfold nli; omega⟩, h3, rfl, h4.symm⟩), rfl, rfl⟩
      · have h3 : gd2_4 = false := (bZ_0 _).mp h3
        refine vv_iconst F zd_MO_implies_32 ?_
        refine vv_goto (tgt := 37) F zd_MO_implies_33 rfl ?_
        refine vv_put (v := .int (iI 2)) (ws' := [ceO 7 mo [.int (iI 2), .int (iI n), .int (iI ac), .ref tha, .int (iI (bZ gk)), .ref rea, .ref poa, .int (iI mn), .ref cha, .ref goa, .ref lea, .int (iI nv), .int (iI mm), .ref fia, .ref sea, .int (iI (bZ true)), .ref sta, .ref lda, .ref vla, .int (iI (bZ gd2_4)), .int (iI fl2_5), .ref dia, .ref qua], ceI G fia 400 f1, ceI G sea 400 f2, ceZ G sta 25600 (fz S2_1), ceZ G lda 25600 (fz Ld2_2), ceI G vla 160 V2_3]) F zd_MO_implies_37 zf_MO zt_MO_ok zn_MO 0 rfl rfl 0 (by decide) zw_756 rfl rfl rfl (Nat.le_of_ble_eq_true rfl) rfl ?_
        refine vv_aload_n F zd_MO_implies_40 rfl 0 rfl ?_
        refine vv_get F zd_MO_implies_41 zf_MO 0 rfl rfl 0 (by decide) zw_756 rfl ?_
        refine vv_if_ne (tgt := 66) F zd_MO_implies_44 rfl (by decide) (fun _ => ?_) (fun h9 => absurd h9 (by decide))
        refine vv_iconst F zd_MO_implies_66 ?_
        exact vv_zret (v := false) F zd_MO_implies_67 ⟨_, _, _, _, _, _, false, hf1_0, Or.inr (Or.inl ⟨⟨by unfold nli; omega, by unfold nli; omega⟩, h3, rfl, rfl⟩), rfl, rfl⟩
    · have h2 : (decide (v = 0 ∨ v < -nv ∨ nv < v)) = true := by cases hb9 : (decide (v = 0 ∨ v < -nv ∨ nv < v)) with | true => rfl | false => exact absurd ((bZ_0 _).mpr hb9) h2
      have h2 := of_decide_eq_true h2
      refine vv_iconst F zd_MO_implies_21 ?_
      refine vv_goto (tgt := 37) F zd_MO_implies_22 rfl ?_
      refine vv_put (v := .int (iI 1)) (ws' := [ceO 7 mo [.int (iI 1), .int (iI n), .int (iI ac), .ref tha, .int (iI (bZ gk)), .ref rea, .ref poa, .int (iI mn), .ref cha, .ref goa, .ref lea, .int (iI nv), .int (iI mm), .ref fia, .ref sea, .int (iI (bZ true)), .ref sta, .ref lda, .ref vla, .int (iI (bZ gd2_4)), .int (iI fl2_5), .ref dia, .ref qua], ceI G fia 400 f1, ceI G sea 400 f2, ceZ G sta 25600 (fz S2_1), ceZ G lda 25600 (fz Ld2_2), ceI G vla 160 V2_3]) F zd_MO_implies_37 zf_MO zt_MO_ok zn_MO 0 rfl rfl 0 (by decide) zw_756 rfl rfl rfl (Nat.le_of_ble_eq_true rfl) rfl ?_
      refine vv_aload_n F zd_MO_implies_40 rfl 0 rfl ?_
      refine vv_get F zd_MO_implies_41 zf_MO 0 rfl rfl 0 (by decide) zw_756 rfl ?_
      refine vv_if_ne (tgt := 66) F zd_MO_implies_44 rfl (by decide) (fun _ => ?_) (fun h9 => absurd h9 (by decide))
      refine vv_iconst F zd_MO_implies_66 ?_
      exact vv_zret (v := false) F zd_MO_implies_67 ⟨_, _, _, _, _, _, false, hf1_0, Or.inl ⟨by unfold nli; omega, rfl, rfl⟩, rfl, rfl⟩
