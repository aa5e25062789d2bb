set_option maxHeartbeats 4000000 in
set_option maxRecDepth 100000 in
theorem cn_MO_roundOf (l : Launch) (G : vv_G) (mo : Nat) (th : Int) (n : Int) (ac : Int) (tha : Nat) (gk : Bool) (rea : Nat) (poa : Nat) (mn : Int) (cha : Nat) (goa : Nat) (lea : Nat) (nv : Int) (mm : Int) (fia : Nat) (sea : Nat) (ck : Bool) (sta : Nat) (lda : Nat) (vla : Nat) (gd : Bool) (fl : Int) (dia : Nat) (qua : Nat) (S : Nat → Nat → Bool) (Di : Nat → Int) (Qu : Nat → Int) (u : Int) (hv : 1 ≤ nv ∧ nv ≤ 80) (hu : 1 ≤ u ∧ u ≤ nv) (hS : ∀ x y, S x y = true → x < (2 * nv).toNat ∧ y < (2 * nv).toNat) :
    vv_C l zy_MO_roundOf zc_MO_roundOf 3 (some .int) { frames := 2, cells := 0, slots := 0, locals := 48 } G [.ref mo, .int (iI u)] [ceO 7 mo [.int (iI th), .int (iI n), .int (iI ac), .ref tha, .int (iI (bZ gk)), .ref rea, .ref poa, .int (iI mn), .ref cha, .ref goa, .ref lea, .int (iI nv), .int (iI mm), .ref fia, .ref sea, .int (iI (bZ ck)), .ref sta, .ref lda, .ref vla, .int (iI (bZ gd)), .int (iI fl), .ref dia, .ref qua], ceZ G sta 25600 (fz S), ceI G dia 160 Di, ceI G qua 160 Qu] (fun v7 w7 => ∃ (Di2 : Nat → Int) (Qu2 : Nat → Int) (z : Int), (mrn S u.toNat z) ∧ v7 = some (.int (iI z)) ∧ w7 = [ceO 7 mo [.int (iI th), .int (iI n), .int (iI ac), .ref tha, .int (iI (bZ gk)), .ref rea, .ref poa, .int (iI mn), .ref cha, .ref goa, .ref lea, .int (iI nv), .int (iI mm), .ref fia, .ref sea, .int (iI (bZ ck)), .ref sta, .ref lda, .ref vla, .int (iI (bZ gd)), .int (iI fl), .ref dia, .ref qua], ceZ G sta 25600 (fz S), ceI G dia 160 Di2, ceI G qua 160 Qu2]) := by
  refine vv_met (by decide +kernel) (Nat.le_of_ble_eq_true rfl) rfl ?_
  intro p e s m args below meth c A F
  refine vv_aload_n F zd_MO_roundOf_0 rfl 0 rfl ?_
  refine vv_aload_n F zd_MO_roundOf_1 rfl 0 rfl ?_
  refine vv_get F zd_MO_roundOf_2 zf_MO 0 rfl rfl 16 (by decide) zw_772 rfl ?_
  refine vv_iconst F zd_MO_roundOf_5 ?_
  refine vv_aload_n F zd_MO_roundOf_6 rfl 0 rfl ?_
  refine vv_get F zd_MO_roundOf_7 zf_MO 0 rfl rfl 11 (by decide) zw_767 rfl ?_
  refine vv_imul F zd_MO_roundOf_10 ?_
  refine vv_iconst F zd_MO_roundOf_11 ?_
  refine vv_iload_n F zd_MO_roundOf_12 rfl 1 rfl ?_
  refine vv_imul F zd_MO_roundOf_13 ?_
  refine vv_iconst F zd_MO_roundOf_14 ?_
  refine vv_isub F zd_MO_roundOf_15 ?_
  refine vv_callV (q0 := 0) (As := [.ref sta, .int (iI (2 * nv)), .int (iI ((2 * u) - 2))]) (rest := []) (wr := []) F (cn_MO_walkFrom l G mo th n ac tha gk rea poa mn cha goa lea nv mm fia sea ck sta lda vla gd fl dia qua sta S (2 * nv) ((2 * u) - 2) Di Qu ⟨by omega, by omega⟩ ⟨by omega, by omega⟩ hS) zm_MO_walkFrom ⟨zw_908, zs_MO_walkFrom⟩ zw_906 zd_MO_roundOf_16 ⟨by decide, by decide⟩ ⟨by decide, by decide⟩ [0, 1, 2, 3] [] rfl rfl ⟨rfl, rfl, by decide⟩ rfl rfl rfl rfl (Nat.le_of_ble_eq_true rfl) (fun v9 w9 hp9 => ?_)
  obtain ⟨Di2_1, Qu2_2, hf1_0, rfl, rfl⟩ := hp9
  refine vv_thenE (ws' := [ceO 7 mo [.int (iI th), .int (iI n), .int (iI ac), .ref tha, .int (iI (bZ gk)), .ref rea, .ref poa, .int (iI mn), .ref cha, .ref goa, .ref lea, .int (iI nv), .int (iI mm), .ref fia, .ref sea, .int (iI (bZ ck)), .ref sta, .ref lda, .ref vla, .int (iI (bZ gd)), .int (iI fl), .ref dia, .ref qua], ceZ G sta 25600 (fz S), ceI G dia 160 Di2_1, ceI G qua 160 Qu2_2]) (st' := []) (kc' := 0) (ks' := 0) [0, 1, 2, 3] rfl rfl rfl ?_
  refine vv_aload_n F zd_MO_roundOf_19 rfl 0 rfl ?_
  refine vv_get F zd_MO_roundOf_20 zf_MO 0 rfl rfl 21 (by decide) zw_777 rfl ?_
  refine vv_iconst F zd_MO_roundOf_23 ?_
  refine vv_iload_n F zd_MO_roundOf_24 rfl 1 rfl ?_
  refine vv_imul F zd_MO_roundOf_25 ?_
  refine vv_iconst F zd_MO_roundOf_26 ?_
  refine vv_isub F zd_MO_roundOf_27 ?_
  refine vv_iald F zd_MO_roundOf_28 2 rfl ⟨by omega, by omega⟩ (by decide) ?_
  refine vv_istore_n (lv' := [(0, .ref mo), (1, .int (iI u)), (2, .int (iI (Di2_1 ((2 * u) - 1).toNat)))]) F zd_MO_roundOf_29 rfl (by decide) [1, 2, 0] rfl ?_
  refine vv_aload_n F zd_MO_roundOf_30 rfl 0 rfl ?_
  refine vv_aload_n F zd_MO_roundOf_31 rfl 0 rfl ?_
  refine vv_get F zd_MO_roundOf_32 zf_MO 0 rfl rfl 16 (by decide) zw_772 rfl ?_
  refine vv_iconst F zd_MO_roundOf_35 ?_
  refine vv_aload_n F zd_MO_roundOf_36 rfl 0 rfl ?_
  refine vv_get F zd_MO_roundOf_37 zf_MO 0 rfl rfl 11 (by decide) zw_767 rfl ?_
  refine vv_imul F zd_MO_roundOf_40 ?_
  refine vv_iconst F zd_MO_roundOf_41 ?_
  refine vv_iload_n F zd_MO_roundOf_42 rfl 1 rfl ?_
  refine vv_imul F zd_MO_roundOf_43 ?_
  refine vv_iconst F zd_MO_roundOf_44 ?_
  refine vv_isub F zd_MO_roundOf_45 ?_
  refine vv_callV (q0 := 0) (As := [.ref sta, .int (iI (2 * nv)), .int (iI ((2 * u) - 1))]) (rest := []) (wr := []) F (cn_MO_walkFrom l G mo th n ac tha gk rea poa mn cha goa lea nv mm fia sea ck sta lda vla gd fl dia qua sta S (2 * nv) ((2 * u) - 1) Di2_1 Qu2_2 ⟨by omega, by omega⟩ ⟨by omega, by omega⟩ hS) zm_MO_walkFrom ⟨zw_908, zs_MO_walkFrom⟩ zw_906 zd_MO_roundOf_46 ⟨by decide, by decide⟩ ⟨by decide, by decide⟩ [0, 1, 2, 3] [] rfl rfl ⟨rfl, rfl, by decide⟩ rfl rfl rfl rfl (Nat.le_of_ble_eq_true rfl) (fun v9 w9 hp9 => ?_)
  obtain ⟨Di2_3, Qu2_4, hf2_0, rfl, rfl⟩ := hp9
  refine vv_thenE (ws' := [ceO 7 mo [.int (iI th), .int (iI n), .int (iI ac), .ref tha, .int (iI (bZ gk)), .ref rea, .ref poa, .int (iI mn), .ref cha, .ref goa, .ref lea, .int (iI nv), .int (iI mm), .ref fia, .ref sea, .int (iI (bZ ck)), .ref sta, .ref lda, .ref vla, .int (iI (bZ gd)), .int (iI fl), .ref dia, .ref qua], ceZ G sta 25600 (fz S), ceI G dia 160 Di2_3, ceI G qua 160 Qu2_4]) (st' := []) (kc' := 0) (ks' := 0) [0, 1, 2, 3] rfl rfl rfl ?_
  refine vv_iload_n F zd_MO_roundOf_49 rfl 2 rfl ?_
  refine vv_aload_n F zd_MO_roundOf_50 rfl 0 rfl ?_
  refine vv_get F zd_MO_roundOf_51 zf_MO 0 rfl rfl 21 (by decide) zw_777 rfl ?_
  refine vv_iconst F zd_MO_roundOf_54 ?_
  refine vv_iload_n F zd_MO_roundOf_55 rfl 1 rfl ?_
  refine vv_imul F zd_MO_roundOf_56 ?_
  refine vv_iconst F zd_MO_roundOf_57 ?_
  refine vv_isub F zd_MO_roundOf_58 ?_
  refine vv_iald F zd_MO_roundOf_59 2 rfl ⟨by omega, by omega⟩ (by decide) ?_
  refine vv_iadd F zd_MO_roundOf_60 ?_
  exact vv_iret F zd_MO_roundOf_61 ⟨_, _, _, by
      have k1 := hf1_0; have k2 := hf2_0
      rw [show (2 * u - 2).toNat = 2 * u.toNat - 2 by omega] at k1 ⊢
      rw [show (2 * u - 1).toNat = 2 * u.toNat - 1 by omega] at k2 ⊢
      exact mrn_of k1 k2 (by omega) (by omega), rfl, rfl⟩

set_option maxHeartbeats 4000000 in
set_option maxRecDepth 100000 in
theorem lp_MO_lr {p : Program} {l : Launch} {e : Env} {s : State} {m : MethodId} {args : Array Value} {below : List Frame} {meth : Method} {c : Code} {A : Nat → Prop} {Q : State → Prop} {G : vv_G} (F : vv_F p s m args meth c zc_MO_leastRound "ClauseGraphModel" "leastRound" (some .int) G A 6) (mo : Nat) (th : Int) (n : Int) (ac : Int) (tha : Nat) (gk : Bool) (rea : Nat) (poa : Nat) (mn : Int) (cha : Nat) (goa : Nat) (lea : Nat) (nv : Int) (mm : Int) (fia : Nat) (sea : Nat) (ck : Bool) (sta : Nat) (lda : Nat) (vla : Nat) (gd : Bool) (fl : Int) (dia : Nat) (qua : Nat) (f1 : Nat → Int) (f2 : Nat → Int) (S : Nat → Nat → Bool) (Ld : Nat → Nat → Bool) (V : Nat → Int) (wh : Bool) (hv : 1 ≤ nv ∧ nv ≤ 80) (hS : ∀ x y, S x y = true → x < (2 * nv).toNat ∧ y < (2 * nv).toNat)
    (k : ∀ (le : Int) (fo : Int) (Di : Nat → Int) (Qu : Nat → Int), (1 ≤ (nv + 1) ∧ (nv + 1) ≤ nv + 1 ∧ mls S ((nv + 1) - 1).toNat le fo) → vv_V p l e { frames := 3, cells := 0, slots := 0, locals := 70 } s m args below meth c G A 6 Q 47 [(0, .ref mo), (1, .int (iI (bZ wh))), (2, .int (iI le)), (3, .int (iI fo)), (4, .int (iI (nv + 1)))] [] [ceO 7 mo [.int (iI th), .int (iI n), .int (iI ac), .ref tha, .int (iI (bZ gk)), .ref rea, .ref poa, .int (iI mn), .ref cha, .ref goa, .ref lea, .int (iI nv), .int (iI mm), .ref fia, .ref sea, .int (iI (bZ ck)), .ref sta, .ref lda, .ref vla, .int (iI (bZ gd)), .int (iI fl), .ref dia, .ref qua], ceI G fia 400 f1, ceI G sea 400 f2, ceZ G sta 25600 (fz S), ceZ G lda 25600 (fz Ld), ceI G vla 160 V, ceI G dia 160 Di, ceI G qua 160 Qu] 0 0)  :
    ∀ (d : Nat) (i : Int) (le : Int) (fo : Int) (Di : Nat → Int) (Qu : Nat → Int), i + (d : Int) = (nv + 1) → (1 ≤ i ∧ i ≤ nv + 1 ∧ mls S (i - 1).toNat le fo) → vv_V p l e { frames := 3, cells := 0, slots := 0, locals := 70 } s m args below meth c G A 6 Q 12 [(0, .ref mo), (1, .int (iI (bZ wh))), (2, .int (iI le)), (3, .int (iI fo)), (4, .int (iI i))] [] [ceO 7 mo [.int (iI th), .int (iI n), .int (iI ac), .ref tha, .int (iI (bZ gk)), .ref rea, .ref poa, .int (iI mn), .ref cha, .ref goa, .ref lea, .int (iI nv), .int (iI mm), .ref fia, .ref sea, .int (iI (bZ ck)), .ref sta, .ref lda, .ref vla, .int (iI (bZ gd)), .int (iI fl), .ref dia, .ref qua], ceI G fia 400 f1, ceI G sea 400 f2, ceZ G sta 25600 (fz S), ceZ G lda 25600 (fz Ld), ceI G vla 160 V, ceI G dia 160 Di, ceI G qua 160 Qu] 0 0 := by
  intro d
  induction d with
  | zero =>
    intro i le fo Di Qu hd hI
    have hz : i = (nv + 1) := by omega
    subst hz
    refine vv_iload F zd_MO_leastRound_12 4 rfl ?_
    refine vv_aload_n F zd_MO_leastRound_14 rfl 0 rfl ?_
    refine vv_get F zd_MO_leastRound_15 zf_MO 0 rfl rfl 11 (by decide) zw_767 rfl ?_
    refine vv_icmp_gt (tgt := 47) F zd_MO_leastRound_18 rfl (by first | exact ⟨by omega, by omega⟩) (by first | exact ⟨by omega, by omega⟩) (fun _ => ?_) (fun h9 => absurd h9 (by omega))
    exact k le fo Di Qu hI
  | succ d ih =>
    intro i le fo Di Qu hd hI
    have hr0 := mls_rg hI.2.2
    refine vv_iload F zd_MO_leastRound_12 4 rfl ?_
    refine vv_aload_n F zd_MO_leastRound_14 rfl 0 rfl ?_
    refine vv_get F zd_MO_leastRound_15 zf_MO 0 rfl rfl 11 (by decide) zw_767 rfl ?_
    refine vv_icmp_gt (tgt := 47) F zd_MO_leastRound_18 rfl (by first | exact ⟨by omega, by omega⟩) (by first | exact ⟨by omega, by omega⟩) (fun h9 => absurd h9 (by omega)) (fun _ => ?_)
    refine vv_aload_n F zd_MO_leastRound_21 rfl 0 rfl ?_
    refine vv_iload F zd_MO_leastRound_22 4 rfl ?_
    refine vv_callV (q0 := 0) (As := [.int (iI i)]) (rest := []) (wr := [ceI G fia 400 f1, ceI G sea 400 f2, ceZ G lda 25600 (fz Ld), ceI G vla 160 V]) F (cn_MO_roundOf l G mo th n ac tha gk rea poa mn cha goa lea nv mm fia sea ck sta lda vla gd fl dia qua S Di Qu i ⟨by omega, by omega⟩ ⟨by omega, by omega⟩ hS) zm_MO_roundOf ⟨zw_991, zs_MO_roundOf⟩ zw_989 zd_MO_leastRound_24 ⟨by decide, by decide⟩ ⟨by decide, by decide⟩ [0, 3, 6, 7] [1, 2, 4, 5] rfl rfl ⟨rfl, rfl, by decide⟩ rfl rfl rfl rfl (Nat.le_of_ble_eq_true rfl) (fun v9 w9 hp9 => ?_)
    obtain ⟨Di2_1, Qu2_2, z_3, hf1_0, rfl, rfl⟩ := hp9
    refine vv_thenE (ws' := [ceO 7 mo [.int (iI th), .int (iI n), .int (iI ac), .ref tha, .int (iI (bZ gk)), .ref rea, .ref poa, .int (iI mn), .ref cha, .ref goa, .ref lea, .int (iI nv), .int (iI mm), .ref fia, .ref sea, .int (iI (bZ ck)), .ref sta, .ref lda, .ref vla, .int (iI (bZ gd)), .int (iI fl), .ref dia, .ref qua], ceI G fia 400 f1, ceI G sea 400 f2, ceZ G sta 25600 (fz S), ceZ G lda 25600 (fz Ld), ceI G vla 160 V, ceI G dia 160 Di2_1, ceI G qua 160 Qu2_2]) (st' := [.int (iI z_3)]) (kc' := 0) (ks' := 0) [4, 0, 1, 5, 2, 3, 6, 7] rfl rfl rfl ?_
    have hz9 : mrn S ((i - 1).toNat + 1) z_3 := by rw [show (i - 1).toNat + 1 = i.toNat by omega]; exact hf1_0
    have hz8 := mrn_rg hz9
    refine vv_istore (lv' := [(0, .ref mo), (1, .int (iI (bZ wh))), (2, .int (iI le)), (3, .int (iI fo)), (4, .int (iI i)), (5, .int (iI z_3))]) F zd_MO_leastRound_27 (by decide) [1, 2, 3, 4, 5, 0] rfl ?_
    refine vv_iload F zd_MO_leastRound_29 5 rfl ?_
    refine vv_iload_n F zd_MO_leastRound_31 rfl 2 rfl ?_
    refine vv_icmp_ge (tgt := 41) F zd_MO_leastRound_32 rfl (by first | exact ⟨by omega, by omega⟩) (by first | exact ⟨by omega, by omega⟩) (fun h1 => ?_) (fun h1 => ?_)
    · refine vv_iinc (j := 4) (lv' := [(0, .ref mo), (1, .int (iI (bZ wh))), (2, .int (iI le)), (3, .int (iI fo)), (4, .int (iI (i + 1))), (5, .int (iI z_3))]) F zd_MO_leastRound_41 rfl (by decide) [1, 2, 3, 4, 0, 5] rfl ?_
      refine vv_goto (tgt := 12) F zd_MO_leastRound_44 rfl ?_
      refine vv_locals (lv' := [(0, .ref mo), (1, .int (iI (bZ wh))), (2, .int (iI le)), (3, .int (iI fo)), (4, .int (iI (i + 1)))]) [0, 1, 2, 3, 4] rfl ?_
      exact ih (i + 1) le fo Di2_1 Qu2_2 (by omega) (⟨by omega, by omega, by rw [show (i + 1 - 1).toNat = (i - 1).toNat + 1 by omega]; exact mls_no hI.2.2 hz9 h1⟩)
    · refine vv_iload F zd_MO_leastRound_35 5 rfl ?_
      refine vv_istore_n (lv' := [(0, .ref mo), (1, .int (iI (bZ wh))), (2, .int (iI z_3)), (3, .int (iI fo)), (4, .int (iI i)), (5, .int (iI z_3))]) F zd_MO_leastRound_37 rfl (by decide) [1, 2, 0, 3, 4, 5] rfl ?_
      refine vv_iload F zd_MO_leastRound_38 4 rfl ?_
      refine vv_istore_n (lv' := [(0, .ref mo), (1, .int (iI (bZ wh))), (2, .int (iI z_3)), (3, .int (iI i)), (4, .int (iI i)), (5, .int (iI z_3))]) F zd_MO_leastRound_40 rfl (by decide) [1, 2, 3, 0, 4, 5] rfl ?_
      refine vv_iinc (j := 4) (lv' := [(0, .ref mo), (1, .int (iI (bZ wh))), (2, .int (iI z_3)), (3, .int (iI i)), (4, .int (iI (i + 1))), (5, .int (iI z_3))]) F zd_MO_leastRound_41 rfl (by decide) [1, 2, 3, 4, 0, 5] rfl ?_
      refine vv_goto (tgt := 12) F zd_MO_leastRound_44 rfl ?_
      refine vv_locals (lv' := [(0, .ref mo), (1, .int (iI (bZ wh))), (2, .int (iI z_3)), (3, .int (iI i)), (4, .int (iI (i + 1)))]) [0, 1, 2, 3, 4] rfl ?_
      exact ih (i + 1) z_3 i Di2_1 Qu2_2 (by omega) (⟨by omega, by omega, by rw [show (i + 1 - 1).toNat = (i - 1).toNat + 1 by omega]; have h9 := mls_yes hI.2.2 hz9 h1; rw [show (((i - 1).toNat : Nat) : Int) + 1 = i by omega] at h9; exact h9⟩)

set_option maxHeartbeats 4000000 in
set_option maxRecDepth 100000 in
theorem cn_MO_leastRound (l : Launch) (G : vv_G) (mo : Nat) (th : Int) (n : Int) (ac : Int) (tha : Nat) (gk : Bool) (rea : Nat) (poa : Nat) (mn : Int) (cha : Nat) (goa : Nat) (lea : Nat) (nv : Int) (mm : Int) (fia : Nat) (sea : Nat) (ck : Bool) (sta : Nat) (lda : Nat) (vla : Nat) (gd : Bool) (fl : Int) (dia : Nat) (qua : Nat) (f1 : Nat → Int) (f2 : Nat → Int) (S : Nat → Nat → Bool) (Ld : Nat → Nat → Bool) (V : Nat → Int) (wh : Bool) (Di : Nat → Int) (Qu : Nat → Int) (hv : 1 ≤ nv ∧ nv ≤ 80) (hm : 0 ≤ mm ∧ mm ≤ 400) (hf : ∀ j : Nat, (j : Int) < mm → ¬ nli nv (f1 j) ∧ ¬ nli nv (f2 j)) (hc : ck = true → mC nv mm f1 f2 S Ld V gd fl) :
    vv_C l zy_MO_leastRound zc_MO_leastRound 6 (some .int) { frames := 3, cells := 0, slots := 0, locals := 70 } G [.ref mo, .int (iI (bZ wh))] [ceO 7 mo [.int (iI th), .int (iI n), .int (iI ac), .ref tha, .int (iI (bZ gk)), .ref rea, .ref poa, .int (iI mn), .ref cha, .ref goa, .ref lea, .int (iI nv), .int (iI mm), .ref fia, .ref sea, .int (iI (bZ ck)), .ref sta, .ref lda, .ref vla, .int (iI (bZ gd)), .int (iI fl), .ref dia, .ref qua], ceI G fia 400 f1, ceI G sea 400 f2, ceZ G sta 25600 (fz S), ceZ G lda 25600 (fz Ld), ceI G vla 160 V, ceI G dia 160 Di, ceI G qua 160 Qu] (fun v7 w7 => ∃ (S2 : Nat → Nat → Bool) (Ld2 : Nat → Nat → Bool) (V2 : Nat → Int) (gd2 : Bool) (fl2 : Int) (Di2 : Nat → Int) (Qu2 : Nat → Int) (z : Int), (mC nv mm f1 f2 S2 Ld2 V2 gd2 fl2) ∧ (∃ sr lr, rdsR S2 nv.toNat sr lr ∧ z = (if wh = true then lr else sr)) ∧ v7 = some (.int (iI z)) ∧ w7 = [ceO 7 mo [.int (iI th), .int (iI n), .int (iI ac), .ref tha, .int (iI (bZ gk)), .ref rea, .ref poa, .int (iI mn), .ref cha, .ref goa, .ref lea, .int (iI nv), .int (iI mm), .ref fia, .ref sea, .int (iI (bZ true)), .ref sta, .ref lda, .ref vla, .int (iI (bZ gd2)), .int (iI fl2), .ref dia, .ref qua], ceI G fia 400 f1, ceI G sea 400 f2, ceZ G sta 25600 (fz S2), ceZ G lda 25600 (fz Ld2), ceI G vla 160 V2, ceI G dia 160 Di2, ceI G qua 160 Qu2]) := by
  refine vv_met (by decide +kernel) (Nat.le_of_ble_eq_true rfl) rfl ?_
  intro p e s m args below meth c A F
  refine vv_aload_n F zd_MO_leastRound_0 rfl 0 rfl ?_
  refine vv_callV (q0 := 0) (As := []) (rest := []) (wr := [ceI G dia 160 Di, ceI G qua 160 Qu]) F (cn_MO_knowClauses l G mo th n ac tha gk rea poa mn cha goa lea nv mm fia sea ck sta lda vla gd fl dia qua f1 f2 S Ld V hv hm hf hc) zm_MO_knowClauses ⟨zw_941, zs_MO_knowClauses⟩ zw_939 zd_MO_leastRound_1 ⟨by decide, by decide⟩ ⟨by decide, by decide⟩ [0, 1, 2, 3, 4, 5] [6, 7] rfl rfl ⟨rfl, rfl, by decide⟩ rfl rfl rfl rfl (Nat.le_of_ble_eq_true rfl) (fun v9 w9 hp9 => ?_)
  obtain ⟨S2_1, Ld2_2, V2_3, gd2_4, fl2_5, hf1_0, rfl, rfl⟩ := hp9
  refine vv_thenE (ws' := [ceO 7 mo [.int (iI th), .int (iI n), .int (iI ac), .ref tha, .int (iI (bZ gk)), .ref rea, .ref poa, .int (iI mn), .ref cha, .ref goa, .ref lea, .int (iI nv), .int (iI mm), .ref fia, .ref sea, .int (iI (bZ true)), .ref sta, .ref lda, .ref vla, .int (iI (bZ gd2_4)), .int (iI fl2_5), .ref dia, .ref qua], ceI G fia 400 f1, ceI G sea 400 f2, ceZ G sta 25600 (fz S2_1), ceZ G lda 25600 (fz Ld2_2), ceI G vla 160 V2_3, ceI G dia 160 Di, ceI G qua 160 Qu]) (st' := []) (kc' := 0) (ks' := 0) [2, 3, 4, 5, 6, 7, 0, 1] rfl rfl rfl ?_
  have hS2 : ∀ x y, S2_1 x y = true → x < (2 * nv).toNat ∧ y < (2 * nv).toNat := by
    rw [hf1_0.1, show (2 * nv).toNat = 2 * nv.toNat by omega]
    refine stB_lt (n := nv.toNat) mm.toNat (fun j hj => ?_)
    obtain ⟨e1, e2⟩ := hf j (by omega)
    unfold nli at e1 e2
    refine ⟨?_, ?_, ?_, ?_⟩ <;> (show _; unfold ptO; split <;> omega)
  refine vv_ldc (z := 100000) F zd_MO_leastRound_4 zw_910 (by decide) ?_
  refine vv_istore_n (lv' := [(0, .ref mo), (1, .int (iI (bZ wh))), (2, .int (iI 100000))]) F zd_MO_leastRound_6 rfl (by decide) [1, 2, 0] rfl ?_
  refine vv_iconst F zd_MO_leastRound_7 ?_
  refine vv_istore_n (lv' := [(0, .ref mo), (1, .int (iI (bZ wh))), (2, .int (iI 100000)), (3, .int (iI (-1)))]) F zd_MO_leastRound_8 rfl (by decide) [1, 2, 3, 0] rfl ?_
  refine vv_iconst F zd_MO_leastRound_9 ?_
  refine vv_istore (lv' := [(0, .ref mo), (1, .int (iI (bZ wh))), (2, .int (iI 100000)), (3, .int (iI (-1))), (4, .int (iI 1))]) F zd_MO_leastRound_10 (by decide) [1, 2, 3, 4, 0] rfl ?_
  refine lp_MO_lr F mo th n ac tha gk rea poa mn cha goa lea nv mm fia sea true sta lda vla gd2_4 fl2_5 dia qua f1 f2 S2_1 Ld2_2 V2_3 wh hv hS2 (fun le fo D9 Q9 hI => ?_) nv.toNat 1 100000 (-1) Di Qu (by omega) ⟨by omega, by omega, Or.inl ⟨rfl, rfl, rdsR_0⟩⟩
  have hr0 := mls_rg hI.2.2
  rw [show (nv + 1 - 1).toNat = nv.toNat by omega] at hI
  obtain ⟨sr9, lr9, r1, r2, r3⟩ := mls_end hI.2.2
  refine vv_iload_n F zd_MO_leastRound_47 rfl 3 rfl ?_
  refine vv_iconst F zd_MO_leastRound_48 ?_
  refine vv_icmp_ne (tgt := 56) F zd_MO_leastRound_49 rfl (by first | exact ⟨by omega, by omega⟩) (by decide) (fun h1 => ?_) (fun h1 => ?_)
  · refine vv_iload_n F zd_MO_leastRound_56 rfl 1 rfl ?_
    refine vv_if_eq (tgt := 64) F zd_MO_leastRound_57 rfl (bZ_rg _) (fun h2 => ?_) (fun h2 => ?_)
    · have h2 : wh = false := (bZ_0 _).mp h2
      refine vv_iload_n F zd_MO_leastRound_64 rfl 2 rfl ?_
      exact vv_iret F zd_MO_leastRound_65 ⟨_, _, _, _, _, _, _, _, hf1_0, ⟨sr9, lr9, r1, by rw [h2, if_neg (by decide)]; exact (r3 h1).1.symm⟩, rfl, rfl⟩
    · have h2 : wh = true := by cases hb9 : wh with | true => rfl | false => exact absurd ((bZ_0 _).mpr hb9) h2
      refine vv_iload_n F zd_MO_leastRound_60 rfl 3 rfl ?_
      refine vv_goto (tgt := 65) F zd_MO_leastRound_61 rfl ?_
      exact vv_iret F zd_MO_leastRound_65 ⟨_, _, _, _, _, _, _, _, hf1_0, ⟨sr9, lr9, r1, by rw [h2, if_pos rfl]; exact (r3 h1).2.symm⟩, rfl, rfl⟩
  · refine vv_iconst F zd_MO_leastRound_52 ?_
    refine vv_goto (tgt := 65) F zd_MO_leastRound_53 rfl ?_
    exact vv_iret F zd_MO_leastRound_65 ⟨_, _, _, _, _, _, _, _, hf1_0, ⟨sr9, lr9, r1, by rw [(r2 h1).1, (r2 h1).2]; split <;> rfl⟩, rfl, rfl⟩

set_option maxHeartbeats 4000000 in
set_option maxRecDepth 100000 in
theorem cn_MO_round (l : Launch) (G : vv_G) (mo : Nat) (th : Int) (n : Int) (ac : Int) (tha : Nat) (gk : Bool) (rea : Nat) (poa : Nat) (mn : Int) (cha : Nat) (goa : Nat) (lea : Nat) (nv : Int) (mm : Int) (fia : Nat) (sea : Nat) (ck : Bool) (sta : Nat) (lda : Nat) (vla : Nat) (gd : Bool) (fl : Int) (dia : Nat) (qua : Nat) (f1 : Nat → Int) (f2 : Nat → Int) (S : Nat → Nat → Bool) (Ld : Nat → Nat → Bool) (V : Nat → Int) (Di : Nat → Int) (Qu : Nat → Int) (hv : 1 ≤ nv ∧ nv ≤ 80) (hm : 0 ≤ mm ∧ mm ≤ 400) (hf : ∀ j : Nat, (j : Int) < mm → ¬ nli nv (f1 j) ∧ ¬ nli nv (f2 j)) (hc : ck = true → mC nv mm f1 f2 S Ld V gd fl) :
    vv_C l zy_MO_round zc_MO_round 1 (some .int) { frames := 4, cells := 0, slots := 0, locals := 95 } G [.ref mo] [ceO 7 mo [.int (iI th), .int (iI n), .int (iI ac), .ref tha, .int (iI (bZ gk)), .ref rea, .ref poa, .int (iI mn), .ref cha, .ref goa, .ref lea, .int (iI nv), .int (iI mm), .ref fia, .ref sea, .int (iI (bZ ck)), .ref sta, .ref lda, .ref vla, .int (iI (bZ gd)), .int (iI fl), .ref dia, .ref qua], ceI G fia 400 f1, ceI G sea 400 f2, ceZ G sta 25600 (fz S), ceZ G lda 25600 (fz Ld), ceI G vla 160 V, ceI G dia 160 Di, ceI G qua 160 Qu] (fun v7 w7 => ∃ (S2 : Nat → Nat → Bool) (Ld2 : Nat → Nat → Bool) (V2 : Nat → Int) (gd2 : Bool) (fl2 : Int) (Di2 : Nat → Int) (Qu2 : Nat → Int) (z : Int), (mC nv mm f1 f2 S2 Ld2 V2 gd2 fl2) ∧ (∃ sr lr, rdsR S2 nv.toNat sr lr ∧ z = (if false = true then lr else sr)) ∧ v7 = some (.int (iI z)) ∧ w7 = [ceO 7 mo [.int (iI 0), .int (iI n), .int (iI ac), .ref tha, .int (iI (bZ gk)), .ref rea, .ref poa, .int (iI mn), .ref cha, .ref goa, .ref lea, .int (iI nv), .int (iI mm), .ref fia, .ref sea, .int (iI (bZ true)), .ref sta, .ref lda, .ref vla, .int (iI (bZ gd2)), .int (iI fl2), .ref dia, .ref qua], ceI G fia 400 f1, ceI G sea 400 f2, ceZ G sta 25600 (fz S2), ceZ G lda 25600 (fz Ld2), ceI G vla 160 V2, ceI G dia 160 Di2, ceI G qua 160 Qu2]) := by
  refine vv_met (by decide +kernel) (Nat.le_of_ble_eq_true rfl) rfl ?_
  intro p e s m args below meth c A F
  refine vv_aload_n F zd_MO_round_0 rfl 0 rfl ?_
  refine vv_iconst F zd_MO_round_1 ?_
  refine vv_put (v := .int (iI 0)) (ws' := [ceO 7 mo [.int (iI 0), .int (iI n), .int (iI ac), .ref tha, .int (iI (bZ gk)), .ref rea, .ref poa, .int (iI mn), .ref cha, .ref goa, .ref lea, .int (iI nv), .int (iI mm), .ref fia, .ref sea, .int (iI (bZ ck)), .ref sta, .ref lda, .ref vla, .int (iI (bZ gd)), .int (iI fl), .ref dia, .ref qua], ceI G fia 400 f1, ceI G sea 400 f2, ceZ G sta 25600 (fz S), ceZ G lda 25600 (fz Ld), ceI G vla 160 V, ceI G dia 160 Di, ceI G qua 160 Qu]) F zd_MO_round_2 zf_MO zt_MO_ok zn_MO 0 rfl rfl 0 (by decide) zw_756 rfl rfl rfl (Nat.le_of_ble_eq_true rfl) rfl ?_
  refine vv_aload_n F zd_MO_round_5 rfl 0 rfl ?_
  refine vv_iconst F zd_MO_round_6 ?_
  refine vv_ti (show (0 : Int) = bZ false from rfl) ?_
  refine vv_callV (q0 := 0) (As := [.int (iI (bZ false))]) (rest := []) (wr := []) F (cn_MO_leastRound l G mo 0 n ac tha gk rea poa mn cha goa lea nv mm fia sea ck sta lda vla gd fl dia qua f1 f2 S Ld V false Di Qu hv hm hf hc) zm_MO_leastRound ⟨zw_987, zs_MO_leastRound⟩ zw_985 zd_MO_round_7 ⟨by decide, by decide⟩ ⟨by decide, by decide⟩ [0, 1, 2, 3, 4, 5, 6, 7] [] rfl rfl ⟨rfl, rfl, by decide⟩ rfl rfl rfl rfl (Nat.le_of_ble_eq_true rfl) (fun v9 w9 hp9 => ?_)
  obtain ⟨S2_1, Ld2_2, V2_3, gd2_4, fl2_5, Di2_6, Qu2_7, z_8, hf1_0, hf1_1, rfl, rfl⟩ := hp9
  refine vv_thenE (ws' := [ceO 7 mo [.int (iI 0), .int (iI n), .int (iI ac), .ref tha, .int (iI (bZ gk)), .ref rea, .ref poa, .int (iI mn), .ref cha, .ref goa, .ref lea, .int (iI nv), .int (iI mm), .ref fia, .ref sea, .int (iI (bZ true)), .ref sta, .ref lda, .ref vla, .int (iI (bZ gd2_4)), .int (iI fl2_5), .ref dia, .ref qua], ceI G fia 400 f1, ceI G sea 400 f2, ceZ G sta 25600 (fz S2_1), ceZ G lda 25600 (fz Ld2_2), ceI G vla 160 V2_3, ceI G dia 160 Di2_6, ceI G qua 160 Qu2_7]) (st' := [.int (iI z_8)]) (kc' := 0) (ks' := 0) [0, 1, 2, 3, 4, 5, 6, 7] rfl rfl rfl ?_
  exact vv_iret F zd_MO_round_10 ⟨_, _, _, _, _, _, _, _, hf1_0, hf1_1, rfl, rfl⟩

set_option maxHeartbeats 4000000 in
set_option maxRecDepth 100000 in
theorem cn_MO_rounds (l : Launch) (G : vv_G) (mo : Nat) (th : Int) (n : Int) (ac : Int) (tha : Nat) (gk : Bool) (rea : Nat) (poa : Nat) (mn : Int) (cha : Nat) (goa : Nat) (lea : Nat) (nv : Int) (mm : Int) (fia : Nat) (sea : Nat) (ck : Bool) (sta : Nat) (lda : Nat) (vla : Nat) (gd : Bool) (fl : Int) (dia : Nat) (qua : Nat) (f1 : Nat → Int) (f2 : Nat → Int) (S : Nat → Nat → Bool) (Ld : Nat → Nat → Bool) (V : Nat → Int) (Di : Nat → Int) (Qu : Nat → Int) (hv : 1 ≤ nv ∧ nv ≤ 80) (hm : 0 ≤ mm ∧ mm ≤ 400) (hf : ∀ j : Nat, (j : Int) < mm → ¬ nli nv (f1 j) ∧ ¬ nli nv (f2 j)) (hc : ck = true → mC nv mm f1 f2 S Ld V gd fl) :
    vv_C l zy_MO_rounds zc_MO_rounds 1 (some .int) { frames := 4, cells := 0, slots := 0, locals := 95 } G [.ref mo] [ceO 7 mo [.int (iI th), .int (iI n), .int (iI ac), .ref tha, .int (iI (bZ gk)), .ref rea, .ref poa, .int (iI mn), .ref cha, .ref goa, .ref lea, .int (iI nv), .int (iI mm), .ref fia, .ref sea, .int (iI (bZ ck)), .ref sta, .ref lda, .ref vla, .int (iI (bZ gd)), .int (iI fl), .ref dia, .ref qua], ceI G fia 400 f1, ceI G sea 400 f2, ceZ G sta 25600 (fz S), ceZ G lda 25600 (fz Ld), ceI G vla 160 V, ceI G dia 160 Di, ceI G qua 160 Qu] (fun v7 w7 => ∃ (S2 : Nat → Nat → Bool) (Ld2 : Nat → Nat → Bool) (V2 : Nat → Int) (gd2 : Bool) (fl2 : Int) (Di2 : Nat → Int) (Qu2 : Nat → Int) (z : Int), (mC nv mm f1 f2 S2 Ld2 V2 gd2 fl2) ∧ (∃ sr lr, rdsR S2 nv.toNat sr lr ∧ z = (if true = true then lr else sr)) ∧ v7 = some (.int (iI z)) ∧ w7 = [ceO 7 mo [.int (iI 0), .int (iI n), .int (iI ac), .ref tha, .int (iI (bZ gk)), .ref rea, .ref poa, .int (iI mn), .ref cha, .ref goa, .ref lea, .int (iI nv), .int (iI mm), .ref fia, .ref sea, .int (iI (bZ true)), .ref sta, .ref lda, .ref vla, .int (iI (bZ gd2)), .int (iI fl2), .ref dia, .ref qua], ceI G fia 400 f1, ceI G sea 400 f2, ceZ G sta 25600 (fz S2), ceZ G lda 25600 (fz Ld2), ceI G vla 160 V2, ceI G dia 160 Di2, ceI G qua 160 Qu2]) := by
  refine vv_met (by decide +kernel) (Nat.le_of_ble_eq_true rfl) rfl ?_
  intro p e s m args below meth c A F
  refine vv_aload_n F zd_MO_rounds_0 rfl 0 rfl ?_
  refine vv_iconst F zd_MO_rounds_1 ?_
  refine vv_put (v := .int (iI 0)) (ws' := [ceO 7 mo [.int (iI 0), .int (iI n), .int (iI ac), .ref tha, .int (iI (bZ gk)), .ref rea, .ref poa, .int (iI mn), .ref cha, .ref goa, .ref lea, .int (iI nv), .int (iI mm), .ref fia, .ref sea, .int (iI (bZ ck)), .ref sta, .ref lda, .ref vla, .int (iI (bZ gd)), .int (iI fl), .ref dia, .ref qua], ceI G fia 400 f1, ceI G sea 400 f2, ceZ G sta 25600 (fz S), ceZ G lda 25600 (fz Ld), ceI G vla 160 V, ceI G dia 160 Di, ceI G qua 160 Qu]) F zd_MO_rounds_2 zf_MO zt_MO_ok zn_MO 0 rfl rfl 0 (by decide) zw_756 rfl rfl rfl (Nat.le_of_ble_eq_true rfl) rfl ?_
  refine vv_aload_n F zd_MO_rounds_5 rfl 0 rfl ?_
  refine vv_iconst F zd_MO_rounds_6 ?_
  refine vv_ti (show (1 : Int) = bZ true from rfl) ?_
  refine vv_callV (q0 := 0) (As := [.int (iI (bZ true))]) (rest := []) (wr := []) F (cn_MO_leastRound l G mo 0 n ac tha gk rea poa mn cha goa lea nv mm fia sea ck sta lda vla gd fl dia qua f1 f2 S Ld V true Di Qu hv hm hf hc) zm_MO_leastRound ⟨zw_987, zs_MO_leastRound⟩ zw_985 zd_MO_rounds_7 ⟨by decide, by decide⟩ ⟨by decide, by decide⟩ [0, 1, 2, 3, 4, 5, 6, 7] [] rfl rfl ⟨rfl, rfl, by decide⟩ rfl rfl rfl rfl (Nat.le_of_ble_eq_true rfl) (fun v9 w9 hp9 => ?_)
  obtain ⟨S2_1, Ld2_2, V2_3, gd2_4, fl2_5, Di2_6, Qu2_7, z_8, hf1_0, hf1_1, rfl, rfl⟩ := hp9
  refine vv_thenE (ws' := [ceO 7 mo [.int (iI 0), .int (iI n), .int (iI ac), .ref tha, .int (iI (bZ gk)), .ref rea, .ref poa, .int (iI mn), .ref cha, .ref goa, .ref lea, .int (iI nv), .int (iI mm), .ref fia, .ref sea, .int (iI (bZ true)), .ref sta, .ref lda, .ref vla, .int (iI (bZ gd2_4)), .int (iI fl2_5), .ref dia, .ref qua], ceI G fia 400 f1, ceI G sea 400 f2, ceZ G sta 25600 (fz S2_1), ceZ G lda 25600 (fz Ld2_2), ceI G vla 160 V2_3, ceI G dia 160 Di2_6, ceI G qua 160 Qu2_7]) (st' := [.int (iI z_8)]) (kc' := 0) (ks' := 0) [0, 1, 2, 3, 4, 5, 6, 7] rfl rfl rfl ?_
  exact vv_iret F zd_MO_rounds_10 ⟨_, _, _, _, _, _, _, _, hf1_0, hf1_1, rfl, rfl⟩
