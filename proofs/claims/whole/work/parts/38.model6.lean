/-- what the reference says about a part -/
def mabo (B : Nat → Nat → Bool) (n : Nat) (H : Nat → Nat → Bool) (Nb Ls : Nat → Int) (mn : Int) (D : Nat → Nat → Bool) (C : Nat → Int) (u v : Int) : Int :=
  if v = 0 then (cN (fun a => decide (Nb a = u)) n : Int) else if v = 1 then Ls u.toNat else if v = 2 then (aArcs B n Nb u true : Int) else if v = 3 then (aArcs B n Nb u false : Int)
  else if v = 4 then (cN (mal D H Ls mn.toNat u.toNat false) mn.toNat : Int) else if v = 5 then (cN (mal D H Ls mn.toNat u.toNat true) mn.toNat : Int) else C u.toNat

set_option maxHeartbeats 4000000 in
set_option maxRecDepth 100000 in
theorem lp_MO_ab {p : Program} {l : Launch} {e : Env} {s : State} {m : MethodId} {args : Array Value} {below : List Frame} {meth : Method} {c : Code} {A : Nat → Prop} {Q : State → Prop} {G : vv_G} (F : vv_F p s m args meth c zc_MO_about "ClauseGraphModel" "about" (some .int) G A 5) (mo : Nat) (th : Int) (n : Int) (ac : Int) (tha : Nat) (gk : Bool) (rea : Nat) (poa : Nat) (mn : Int) (cha : Nat) (goa : Nat) (lea : Nat) (nv : Int) (mm : Int) (fia : Nat) (sea : Nat) (ck : Bool) (sta : Nat) (lda : Nat) (vla : Nat) (gd : Bool) (fl : Int) (dia : Nat) (qua : Nat) (B : Nat → Nat → Bool) (H : Nat → Nat → Bool) (Nb : Nat → Int) (C : Nat → Int) (D : Nat → Nat → Bool) (Ls : Nat → Int) (u : Int) (v : Int) (hn : 1 ≤ n ∧ n ≤ 160) (hu : 0 ≤ u ∧ u < 160) (hNb : ∀ j, j < n.toNat → 0 ≤ Nb j ∧ Nb j < 160)
    (k : ∀ (z : Int), (0 ≤ n ∧ z = (cN (fun a => decide (Nb a = u)) n.toNat : Int)) → vv_V p l e { frames := 5, cells := 0, slots := 0, locals := 110 } s m args below meth c G A 5 Q 87 [(0, .ref mo), (1, .int (iI u)), (2, .int (iI v)), (3, .int (iI z)), (4, .int (iI n))] [] [ceO 7 mo [.int (iI th), .int (iI n), .int (iI ac), .ref tha, .int (iI (bZ gk)), .ref rea, .ref poa, .int (iI mn), .ref cha, .ref goa, .ref lea, .int (iI nv), .int (iI mm), .ref fia, .ref sea, .int (iI (bZ ck)), .ref sta, .ref lda, .ref vla, .int (iI (bZ gd)), .int (iI fl), .ref dia, .ref qua], ceZ G tha 25600 (fz B), ceZ G rea 25600 (fz H), ceI G poa 160 Nb, ceI G cha 160 C, ceZ G goa 25600 (fz D), ceI G lea 160 Ls] 0 0)  :
    ∀ (d : Nat) (i : Int) (z : Int), i + (d : Int) = n → (0 ≤ i ∧ z = (cN (fun a => decide (Nb a = u)) i.toNat : Int)) → vv_V p l e { frames := 5, cells := 0, slots := 0, locals := 110 } s m args below meth c G A 5 Q 53 [(0, .ref mo), (1, .int (iI u)), (2, .int (iI v)), (3, .int (iI z)), (4, .int (iI i))] [] [ceO 7 mo [.int (iI th), .int (iI n), .int (iI ac), .ref tha, .int (iI (bZ gk)), .ref rea, .ref poa, .int (iI mn), .ref cha, .ref goa, .ref lea, .int (iI nv), .int (iI mm), .ref fia, .ref sea, .int (iI (bZ ck)), .ref sta, .ref lda, .ref vla, .int (iI (bZ gd)), .int (iI fl), .ref dia, .ref qua], ceZ G tha 25600 (fz B), ceZ G rea 25600 (fz H), ceI G poa 160 Nb, ceI G cha 160 C, ceZ G goa 25600 (fz D), ceI G lea 160 Ls] 0 0 := by
  intro d
  induction d with
  | zero =>
    intro i z hd hI
    have hz : i = n := by omega
    subst hz
    refine vv_iload F zd_MO_about_53 4 rfl ?_
    refine vv_aload_n F zd_MO_about_55 rfl 0 rfl ?_
    refine vv_get F zd_MO_about_56 zf_MO 0 rfl rfl 1 (by decide) zw_757 rfl ?_
    refine vv_icmp_ge (tgt := 87) F zd_MO_about_59 rfl (by first | exact ⟨by omega, by omega⟩) (by first | exact ⟨by omega, by omega⟩) (fun _ => ?_) (fun h9 => absurd h9 (by omega))
    exact k z hI
  | succ d ih =>
    intro i z hd hI
    have q0 := hNb i.toNat (by omega)
    refine vv_iload F zd_MO_about_53 4 rfl ?_
    refine vv_aload_n F zd_MO_about_55 rfl 0 rfl ?_
    refine vv_get F zd_MO_about_56 zf_MO 0 rfl rfl 1 (by decide) zw_757 rfl ?_
    refine vv_icmp_ge (tgt := 87) F zd_MO_about_59 rfl (by first | exact ⟨by omega, by omega⟩) (by first | exact ⟨by omega, by omega⟩) (fun h9 => absurd h9 (by omega)) (fun _ => ?_)
    refine vv_aload_n F zd_MO_about_62 rfl 0 rfl ?_
    refine vv_get F zd_MO_about_63 zf_MO 0 rfl rfl 6 (by decide) zw_762 rfl ?_
    refine vv_iload F zd_MO_about_66 4 rfl ?_
    refine vv_iald F zd_MO_about_68 3 rfl ⟨by omega, by omega⟩ (by decide) ?_
    refine vv_iload_n F zd_MO_about_69 rfl 1 rfl ?_
    refine vv_icmp_ne (tgt := 79) F zd_MO_about_70 rfl (by first | exact ⟨by omega, by omega⟩) (by first | exact ⟨by omega, by omega⟩) (fun h1 => ?_) (fun h1 => ?_)
    · refine vv_iload_n F zd_MO_about_79 rfl 3 rfl ?_
      refine vv_istore_n (lv' := [(0, .ref mo), (1, .int (iI u)), (2, .int (iI v)), (3, .int (iI z)), (4, .int (iI i))]) F zd_MO_about_80 rfl (by decide) [1, 2, 3, 0, 4] rfl ?_
      refine vv_iinc (j := 4) (lv' := [(0, .ref mo), (1, .int (iI u)), (2, .int (iI v)), (3, .int (iI z)), (4, .int (iI (i + 1)))]) F zd_MO_about_81 rfl (by decide) [1, 2, 3, 4, 0] rfl ?_
      refine vv_goto (tgt := 53) F zd_MO_about_84 rfl ?_
      exact ih (i + 1) z (by omega) (⟨by omega, by rw [show (i + 1).toNat = i.toNat + 1 by omega, cN_f (g := (fun a => decide (Nb a = u))) (decide_eq_false (by omega))]; omega⟩)
    · refine vv_iload_n F zd_MO_about_73 rfl 3 rfl ?_
      refine vv_iconst F zd_MO_about_74 ?_
      refine vv_iadd F zd_MO_about_75 ?_
      refine vv_goto (tgt := 80) F zd_MO_about_76 rfl ?_
      refine vv_istore_n (lv' := [(0, .ref mo), (1, .int (iI u)), (2, .int (iI v)), (3, .int (iI (z + 1))), (4, .int (iI i))]) F zd_MO_about_80 rfl (by decide) [1, 2, 3, 0, 4] rfl ?_
      refine vv_iinc (j := 4) (lv' := [(0, .ref mo), (1, .int (iI u)), (2, .int (iI v)), (3, .int (iI (z + 1))), (4, .int (iI (i + 1)))]) F zd_MO_about_81 rfl (by decide) [1, 2, 3, 4, 0] rfl ?_
      refine vv_goto (tgt := 53) F zd_MO_about_84 rfl ?_
      exact ih (i + 1) (z + 1) (by omega) (⟨by omega, by rw [show (i + 1).toNat = i.toNat + 1 by omega, cN_t (g := (fun a => decide (Nb a = u))) (decide_eq_true (by omega))]; omega⟩)

set_option maxHeartbeats 4000000 in
set_option maxRecDepth 100000 in
theorem cn_MO_about (l : Launch) (G : vv_G) (mo : Nat) (th : Int) (n : Int) (ac : Int) (tha : Nat) (gk : Bool) (rea : Nat) (poa : Nat) (mn : Int) (cha : Nat) (goa : Nat) (lea : Nat) (nv : Int) (mm : Int) (fia : Nat) (sea : Nat) (ck : Bool) (sta : Nat) (lda : Nat) (vla : Nat) (gd : Bool) (fl : Int) (dia : Nat) (qua : Nat) (B : Nat → Nat → Bool) (H : Nat → Nat → Bool) (Nb : Nat → Int) (C : Nat → Int) (D : Nat → Nat → Bool) (Ls : Nat → Int) (u : Int) (v : Int) (hn : 1 ≤ n ∧ n ≤ 160) (hB : ∀ x y, B x y = true → x < n.toNat ∧ y < n.toNat) (hg : gk = true → mK B n.toNat H Nb Ls mn D C) (hu : rg u) (hv : rg v) :
    vv_C l zy_MO_about zc_MO_about 5 (some .int) { frames := 5, cells := 0, slots := 0, locals := 110 } G [.ref mo, .int (iI u), .int (iI v)] [ceO 7 mo [.int (iI th), .int (iI n), .int (iI ac), .ref tha, .int (iI (bZ gk)), .ref rea, .ref poa, .int (iI mn), .ref cha, .ref goa, .ref lea, .int (iI nv), .int (iI mm), .ref fia, .ref sea, .int (iI (bZ ck)), .ref sta, .ref lda, .ref vla, .int (iI (bZ gd)), .int (iI fl), .ref dia, .ref qua], ceZ G tha 25600 (fz B), ceZ G rea 25600 (fz H), ceI G poa 160 Nb, ceI G cha 160 C, ceZ G goa 25600 (fz D), ceI G lea 160 Ls] (fun v7 w7 => ∃ (th2 : Int) (gk2 : Bool) (H2 : Nat → Nat → Bool) (Nb2 : Nat → Int) (mn2 : Int) (C2 : Nat → Int) (D2 : Nat → Nat → Bool) (Ls2 : Nat → Int) (z : Int), (gk2 = true → mK B n.toNat H2 Nb2 Ls2 mn2 D2 C2) ∧ (mK B n.toNat H2 Nb2 Ls2 mn2 D2 C2 ∧ (((u < 0 ∨ mn2 ≤ u) ∧ th2 = 1 ∧ z = 0) ∨ ((0 ≤ u ∧ u < mn2) ∧ (v < 0 ∨ 6 < v) ∧ th2 = 2 ∧ z = 0) ∨ ((0 ≤ u ∧ u < mn2) ∧ (0 ≤ v ∧ v ≤ 6) ∧ th2 = 0 ∧ z = mabo B n.toNat H2 Nb2 Ls2 mn2 D2 C2 u v))) ∧ v7 = some (.int (iI z)) ∧ w7 = [ceO 7 mo [.int (iI th2), .int (iI n), .int (iI ac), .ref tha, .int (iI (bZ gk2)), .ref rea, .ref poa, .int (iI mn2), .ref cha, .ref goa, .ref lea, .int (iI nv), .int (iI mm), .ref fia, .ref sea, .int (iI (bZ ck)), .ref sta, .ref lda, .ref vla, .int (iI (bZ gd)), .int (iI fl), .ref dia, .ref qua], ceZ G tha 25600 (fz B), ceZ G rea 25600 (fz H2), ceI G poa 160 Nb2, ceI G cha 160 C2, ceZ G goa 25600 (fz D2), ceI G lea 160 Ls2]) := by
  refine vv_met (by decide +kernel) (Nat.le_of_ble_eq_true rfl) rfl ?_
  intro p e s m args below meth c A F
  refine vv_aload_n F zd_MO_about_0 rfl 0 rfl ?_
  refine vv_callV (q0 := 0) (As := []) (rest := []) (wr := []) F (cn_MO_know l G mo th n ac tha gk rea poa mn cha goa lea nv mm fia sea ck sta lda vla gd fl dia qua B H Nb C D Ls ⟨by omega, by omega⟩ hB hg) zm_MO_know ⟨zw_856, zs_MO_know⟩ zw_854 zd_MO_about_1 ⟨by decide, by decide⟩ ⟨by decide, by decide⟩ [0, 1, 2, 3, 4, 5, 6] [] rfl rfl ⟨rfl, rfl, by decide⟩ rfl rfl rfl rfl (Nat.le_of_ble_eq_true rfl) (fun v9 w9 hp9 => ?_)
  obtain ⟨H2_1, Nb2_2, mn2_3, C2_4, D2_5, Ls2_6, hf1_0, rfl, rfl⟩ := hp9
  refine vv_thenE (ws' := [ceO 7 mo [.int (iI th), .int (iI n), .int (iI ac), .ref tha, .int (iI (bZ true)), .ref rea, .ref poa, .int (iI mn2_3), .ref cha, .ref goa, .ref lea, .int (iI nv), .int (iI mm), .ref fia, .ref sea, .int (iI (bZ ck)), .ref sta, .ref lda, .ref vla, .int (iI (bZ gd)), .int (iI fl), .ref dia, .ref qua], ceZ G tha 25600 (fz B), ceZ G rea 25600 (fz H2_1), ceI G poa 160 Nb2_2, ceI G cha 160 C2_4, ceZ G goa 25600 (fz D2_5), ceI G lea 160 Ls2_6]) (st' := []) (kc' := 0) (ks' := 0) [0, 1, 2, 3, 4, 5, 6] rfl rfl rfl ?_
  obtain ⟨k1, k2, k3, k4⟩ := numC_in hf1_0.2.1
  have hNb2 : ∀ j, j < n.toNat → 0 ≤ Nb2_2 j ∧ Nb2_2 j < 160 := fun j hj => by have := k1 j hj; omega
  have hLs2 : ∀ c : Nat, (c : Int) < mn2_3 → 0 ≤ Ls2_6 c ∧ Ls2_6 c < 160 := fun c hc => by have := k2 c hc; omega
  refine vv_aload_n F zd_MO_about_4 rfl 0 rfl ?_
  refine vv_iload_n F zd_MO_about_5 rfl 1 rfl ?_
  refine vv_if_lt (tgt := 17) F zd_MO_about_6 rfl (by first | exact ⟨by omega, by omega⟩ | exact hu | exact hv) (fun h1 => ?_) (fun h1 => ?_)
  · refine vv_iconst F zd_MO_about_17 ?_
    refine vv_goto (tgt := 36) F zd_MO_about_18 rfl ?_
    refine vv_put (v := .int (iI 1)) (ws' := [ceO 7 mo [.int (iI 1), .int (iI n), .int (iI ac), .ref tha, .int (iI (bZ true)), .ref rea, .ref poa, .int (iI mn2_3), .ref cha, .ref goa, .ref lea, .int (iI nv), .int (iI mm), .ref fia, .ref sea, .int (iI (bZ ck)), .ref sta, .ref lda, .ref vla, .int (iI (bZ gd)), .int (iI fl), .ref dia, .ref qua], ceZ G tha 25600 (fz B), ceZ G rea 25600 (fz H2_1), ceI G poa 160 Nb2_2, ceI G cha 160 C2_4, ceZ G goa 25600 (fz D2_5), ceI G lea 160 Ls2_6]) F zd_MO_about_36 zf_MO zt_MO_ok zn_MO 0 rfl rfl 0 (by decide) zw_756 rfl rfl rfl (Nat.le_of_ble_eq_true rfl) rfl ?_
    refine vv_aload_n F zd_MO_about_39 rfl 0 rfl ?_
    refine vv_get F zd_MO_about_40 zf_MO 0 rfl rfl 0 (by decide) zw_756 rfl ?_
    refine vv_if_le (tgt := 48) F zd_MO_about_43 rfl (by decide) (fun h9 => absurd h9 (by decide)) (fun _ => ?_)
    refine vv_iconst F zd_MO_about_46 ?_
    exact vv_iret F zd_MO_about_47 ⟨_, true, _, _, _, _, _, _, _, fun _ => hf1_0, ⟨hf1_0, Or.inl ⟨by omega, rfl, rfl⟩⟩, rfl, rfl⟩
  · refine vv_iload_n F zd_MO_about_9 rfl 1 rfl ?_
    refine vv_aload_n F zd_MO_about_10 rfl 0 rfl ?_
    refine vv_get F zd_MO_about_11 zf_MO 0 rfl rfl 7 (by decide) zw_763 rfl ?_
    refine vv_icmp_lt (tgt := 21) F zd_MO_about_14 rfl (by first | exact ⟨by omega, by omega⟩ | exact hu | exact hv) (by first | exact ⟨by omega, by omega⟩ | exact hu | exact hv) (fun h2 => ?_) (fun h2 => ?_)
    · refine vv_iload_n F zd_MO_about_21 rfl 2 rfl ?_
      refine vv_if_lt (tgt := 31) F zd_MO_about_22 rfl (by first | exact ⟨by omega, by omega⟩ | exact hu | exact hv) (fun h3 => ?_) (fun h3 => ?_)
      · refine vv_iconst F zd_MO_about_31 ?_
        refine vv_goto (tgt := 36) F zd_MO_about_32 rfl ?_
        refine vv_put (v := .int (iI 2)) (ws' := [ceO 7 mo [.int (iI 2), .int (iI n), .int (iI ac), .ref tha, .int (iI (bZ true)), .ref rea, .ref poa, .int (iI mn2_3), .ref cha, .ref goa, .ref lea, .int (iI nv), .int (iI mm), .ref fia, .ref sea, .int (iI (bZ ck)), .ref sta, .ref lda, .ref vla, .int (iI (bZ gd)), .int (iI fl), .ref dia, .ref qua], ceZ G tha 25600 (fz B), ceZ G rea 25600 (fz H2_1), ceI G poa 160 Nb2_2, ceI G cha 160 C2_4, ceZ G goa 25600 (fz D2_5), ceI G lea 160 Ls2_6]) F zd_MO_about_36 zf_MO zt_MO_ok zn_MO 0 rfl rfl 0 (by decide) zw_756 rfl rfl rfl (Nat.le_of_ble_eq_true rfl) rfl ?_
        refine vv_aload_n F zd_MO_about_39 rfl 0 rfl ?_
        refine vv_get F zd_MO_about_40 zf_MO 0 rfl rfl 0 (by decide) zw_756 rfl ?_
        refine vv_if_le (tgt := 48) F zd_MO_about_43 rfl (by decide) (fun h9 => absurd h9 (by decide)) (fun _ => ?_)
        refine vv_iconst F zd_MO_about_46 ?_
        exact vv_iret F zd_MO_about_47 ⟨_, true, _, _, _, _, _, _, _, fun _ => hf1_0, ⟨hf1_0, Or.inr (Or.inl ⟨⟨by omega, by omega⟩, by omega, rfl, rfl⟩)⟩, rfl, rfl⟩
      · refine vv_iload_n F zd_MO_about_25 rfl 2 rfl ?_
        refine vv_bipush F zd_MO_about_26 (by decide) ?_
        refine vv_icmp_le (tgt := 35) F zd_MO_about_28 rfl (by first | exact ⟨by omega, by omega⟩ | exact hu | exact hv) (by decide) (fun h4 => ?_) (fun h4 => ?_)
        · refine vv_iconst F zd_MO_about_35 ?_
          refine vv_put (v := .int (iI 0)) (ws' := [ceO 7 mo [.int (iI 0), .int (iI n), .int (iI ac), .ref tha, .int (iI (bZ true)), .ref rea, .ref poa, .int (iI mn2_3), .ref cha, .ref goa, .ref lea, .int (iI nv), .int (iI mm), .ref fia, .ref sea, .int (iI (bZ ck)), .ref sta, .ref lda, .ref vla, .int (iI (bZ gd)), .int (iI fl), .ref dia, .ref qua], ceZ G tha 25600 (fz B), ceZ G rea 25600 (fz H2_1), ceI G poa 160 Nb2_2, ceI G cha 160 C2_4, ceZ G goa 25600 (fz D2_5), ceI G lea 160 Ls2_6]) F zd_MO_about_36 zf_MO zt_MO_ok zn_MO 0 rfl rfl 0 (by decide) zw_756 rfl rfl rfl (Nat.le_of_ble_eq_true rfl) rfl ?_
          refine vv_aload_n F zd_MO_about_39 rfl 0 rfl ?_
          refine vv_get F zd_MO_about_40 zf_MO 0 rfl rfl 0 (by decide) zw_756 rfl ?_
          refine vv_if_le (tgt := 48) F zd_MO_about_43 rfl (by decide) (fun _ => ?_) (fun h9 => absurd h9 (by decide))
          refine vv_iconst F zd_MO_about_48 ?_
          refine vv_istore_n (lv' := [(0, .ref mo), (1, .int (iI u)), (2, .int (iI v)), (3, .int (iI 0))]) F zd_MO_about_49 rfl (by decide) [1, 2, 3, 0] rfl ?_
          refine vv_iconst F zd_MO_about_50 ?_
          refine vv_istore (lv' := [(0, .ref mo), (1, .int (iI u)), (2, .int (iI v)), (3, .int (iI 0)), (4, .int (iI 0))]) F zd_MO_about_51 (by decide) [1, 2, 3, 4, 0] rfl ?_
          refine lp_MO_ab F mo 0 n ac tha true rea poa mn2_3 cha goa lea nv mm fia sea ck sta lda vla gd fl dia qua B H2_1 Nb2_2 C2_4 D2_5 Ls2_6 u v hn ⟨by omega, by omega⟩ hNb2 (fun z9 hI => ?_) n.toNat 0 0 (by omega) ⟨by omega, rfl⟩
          refine vv_iload_n F zd_MO_about_87 rfl 2 rfl ?_
          rcases (show (v < 0 ∨ 5 < v) ∨ v = 0 ∨ v = 1 ∨ v = 2 ∨ v = 3 ∨ v = 4 ∨ v = 5 by omega) with h5 | h5 | h5 | h5 | h5 | h5 | h5
          · refine vv_tableOut (tgt := 165) F zd_MO_about_88 (by first | exact ⟨by omega, by omega⟩ | exact hu | exact hv) h5 rfl ?_
            refine vv_aload_n F zd_MO_about_165 rfl 0 rfl ?_
            refine vv_get F zd_MO_about_166 zf_MO 0 rfl rfl 8 (by decide) zw_764 rfl ?_
            refine vv_iload_n F zd_MO_about_169 rfl 1 rfl ?_
            refine vv_iald F zd_MO_about_170 4 rfl ⟨by omega, by omega⟩ (by decide) ?_
            exact vv_iret F zd_MO_about_171 ⟨_, true, _, _, _, _, _, _, _, fun _ => hf1_0, ⟨hf1_0, Or.inr (Or.inr ⟨⟨by omega, by omega⟩, ⟨by omega, by omega⟩, rfl, by unfold mabo; rw [if_neg (by omega)]; rw [if_neg (by omega)]; rw [if_neg (by omega)]; rw [if_neg (by omega)]; rw [if_neg (by omega)]; rw [if_neg (by omega)]; first | done | rfl⟩)⟩, rfl, rfl⟩
          · refine vv_tableIn (tgt := 128) F zd_MO_about_88 (by first | exact ⟨by omega, by omega⟩ | exact hu | exact hv) (by omega) (by omega) (by rw [h5]; rfl) rfl ?_
            refine vv_iload_n F zd_MO_about_128 rfl 3 rfl ?_
            exact vv_iret F zd_MO_about_129 ⟨_, true, _, _, _, _, _, _, _, fun _ => hf1_0, ⟨hf1_0, Or.inr (Or.inr ⟨⟨by omega, by omega⟩, ⟨by omega, by omega⟩, rfl, by unfold mabo; rw [if_pos (by omega)]; exact hI.2⟩)⟩, rfl, rfl⟩
          · refine vv_tableIn (tgt := 130) F zd_MO_about_88 (by first | exact ⟨by omega, by omega⟩ | exact hu | exact hv) (by omega) (by omega) (by rw [h5]; rfl) rfl ?_
            refine vv_aload_n F zd_MO_about_130 rfl 0 rfl ?_
            refine vv_get F zd_MO_about_131 zf_MO 0 rfl rfl 10 (by decide) zw_766 rfl ?_
            refine vv_iload_n F zd_MO_about_134 rfl 1 rfl ?_
            refine vv_iald F zd_MO_about_135 6 rfl ⟨by omega, by omega⟩ (by decide) ?_
            exact vv_iret F zd_MO_about_136 ⟨_, true, _, _, _, _, _, _, _, fun _ => hf1_0, ⟨hf1_0, Or.inr (Or.inr ⟨⟨by omega, by omega⟩, ⟨by omega, by omega⟩, rfl, by unfold mabo; rw [if_neg (by omega)]; rw [if_pos (by omega)]; first | done | rfl⟩)⟩, rfl, rfl⟩
          · refine vv_tableIn (tgt := 137) F zd_MO_about_88 (by first | exact ⟨by omega, by omega⟩ | exact hu | exact hv) (by omega) (by omega) (by rw [h5]; rfl) rfl ?_
            refine vv_aload_n F zd_MO_about_137 rfl 0 rfl ?_
            refine vv_iload_n F zd_MO_about_138 rfl 1 rfl ?_
            refine vv_iconst F zd_MO_about_139 ?_
            refine vv_ti (show (1 : Int) = bZ true from rfl) ?_
            refine vv_callV (q0 := 0) (As := [.int (iI u), .int (iI (bZ true))]) (rest := []) (wr := [ceZ G rea 25600 (fz H2_1), ceI G cha 160 C2_4, ceZ G goa 25600 (fz D2_5), ceI G lea 160 Ls2_6]) F (cn_MO_arcsOf l G mo 0 n ac tha true rea poa mn2_3 cha goa lea nv mm fia sea ck sta lda vla gd fl dia qua B Nb2_2 u true hn ⟨by omega, by omega⟩ hNb2) zm_MO_arcsOf ⟨zw_892, zs_MO_arcsOf⟩ zw_890 zd_MO_about_140 ⟨by decide, by decide⟩ ⟨by decide, by decide⟩ [0, 1, 3] [2, 4, 5, 6] rfl rfl ⟨rfl, rfl, by decide⟩ rfl rfl rfl rfl (Nat.le_of_ble_eq_true rfl) (vv_then (ws' := [ceO 7 mo [.int (iI 0), .int (iI n), .int (iI ac), .ref tha, .int (iI (bZ true)), .ref rea, .ref poa, .int (iI mn2_3), .ref cha, .ref goa, .ref lea, .int (iI nv), .int (iI mm), .ref fia, .ref sea, .int (iI (bZ ck)), .ref sta, .ref lda, .ref vla, .int (iI (bZ gd)), .int (iI fl), .ref dia, .ref qua], ceZ G tha 25600 (fz B), ceZ G rea 25600 (fz H2_1), ceI G poa 160 Nb2_2, ceI G cha 160 C2_4, ceZ G goa 25600 (fz D2_5), ceI G lea 160 Ls2_6]) (st' := [.int (iI (aArcs B n.toNat Nb2_2 u true : Int))]) [4, 5, 0, 6, 1, 2, 3] rfl rfl rfl ?_)
            exact vv_iret F zd_MO_about_143 ⟨_, true, _, _, _, _, _, _, _, fun _ => hf1_0, ⟨hf1_0, Or.inr (Or.inr ⟨⟨by omega, by omega⟩, ⟨by omega, by omega⟩, rfl, by unfold mabo; rw [if_neg (by omega)]; rw [if_neg (by omega)]; rw [if_pos (by omega)]; first | done | rfl⟩)⟩, rfl, rfl⟩
          · refine vv_tableIn (tgt := 144) F zd_MO_about_88 (by first | exact ⟨by omega, by omega⟩ | exact hu | exact hv) (by omega) (by omega) (by rw [h5]; rfl) rfl ?_
            refine vv_aload_n F zd_MO_about_144 rfl 0 rfl ?_
            refine vv_iload_n F zd_MO_about_145 rfl 1 rfl ?_
            refine vv_iconst F zd_MO_about_146 ?_
            refine vv_ti (show (0 : Int) = bZ false from rfl) ?_
            refine vv_callV (q0 := 0) (As := [.int (iI u), .int (iI (bZ false))]) (rest := []) (wr := [ceZ G rea 25600 (fz H2_1), ceI G cha 160 C2_4, ceZ G goa 25600 (fz D2_5), ceI G lea 160 Ls2_6]) F (cn_MO_arcsOf l G mo 0 n ac tha true rea poa mn2_3 cha goa lea nv mm fia sea ck sta lda vla gd fl dia qua B Nb2_2 u false hn ⟨by omega, by omega⟩ hNb2) zm_MO_arcsOf ⟨zw_892, zs_MO_arcsOf⟩ zw_890 zd_MO_about_147 ⟨by decide, by decide⟩ ⟨by decide, by decide⟩ [0, 1, 3] [2, 4, 5, 6] rfl rfl ⟨rfl, rfl, by decide⟩ rfl rfl rfl rfl (Nat.le_of_ble_eq_true rfl) (vv_then (ws' := [ceO 7 mo [.int (iI 0), .int (iI n), .int (iI ac), .ref tha, .int (iI (bZ true)), .ref rea, .ref poa, .int (iI mn2_3), .ref cha, .ref goa, .ref lea, .int (iI nv), .int (iI mm), .ref fia, .ref sea, .int (iI (bZ ck)), .ref sta, .ref lda, .ref vla, .int (iI (bZ gd)), .int (iI fl), .ref dia, .ref qua], ceZ G tha 25600 (fz B), ceZ G rea 25600 (fz H2_1), ceI G poa 160 Nb2_2, ceI G cha 160 C2_4, ceZ G goa 25600 (fz D2_5), ceI G lea 160 Ls2_6]) (st' := [.int (iI (aArcs B n.toNat Nb2_2 u false : Int))]) [4, 5, 0, 6, 1, 2, 3] rfl rfl rfl ?_)
            exact vv_iret F zd_MO_about_150 ⟨_, true, _, _, _, _, _, _, _, fun _ => hf1_0, ⟨hf1_0, Or.inr (Or.inr ⟨⟨by omega, by omega⟩, ⟨by omega, by omega⟩, rfl, by unfold mabo; rw [if_neg (by omega)]; rw [if_neg (by omega)]; rw [if_neg (by omega)]; rw [if_pos (by omega)]; first | done | rfl⟩)⟩, rfl, rfl⟩
          · refine vv_tableIn (tgt := 151) F zd_MO_about_88 (by first | exact ⟨by omega, by omega⟩ | exact hu | exact hv) (by omega) (by omega) (by rw [h5]; rfl) rfl ?_
            refine vv_aload_n F zd_MO_about_151 rfl 0 rfl ?_
            refine vv_iload_n F zd_MO_about_152 rfl 1 rfl ?_
            refine vv_iconst F zd_MO_about_153 ?_
            refine vv_ti (show (0 : Int) = bZ false from rfl) ?_
            refine vv_callV (q0 := 0) (As := [.int (iI u), .int (iI (bZ false))]) (rest := []) (wr := [ceZ G tha 25600 (fz B), ceI G poa 160 Nb2_2, ceI G cha 160 C2_4]) F (cn_MO_alone l G mo 0 n ac tha true rea poa mn2_3 cha goa lea nv mm fia sea ck sta lda vla gd fl dia qua D2_5 H2_1 Ls2_6 u false ⟨by omega, by omega⟩ ⟨by omega, by omega⟩ hLs2) zm_MO_alone ⟨zw_896, zs_MO_alone⟩ zw_894 zd_MO_about_154 ⟨by decide, by decide⟩ ⟨by decide, by decide⟩ [0, 5, 2, 6] [1, 3, 4] rfl rfl ⟨rfl, rfl, by decide⟩ rfl rfl rfl rfl (Nat.le_of_ble_eq_true rfl) (vv_then (ws' := [ceO 7 mo [.int (iI 0), .int (iI n), .int (iI ac), .ref tha, .int (iI (bZ true)), .ref rea, .ref poa, .int (iI mn2_3), .ref cha, .ref goa, .ref lea, .int (iI nv), .int (iI mm), .ref fia, .ref sea, .int (iI (bZ ck)), .ref sta, .ref lda, .ref vla, .int (iI (bZ gd)), .int (iI fl), .ref dia, .ref qua], ceZ G tha 25600 (fz B), ceZ G rea 25600 (fz H2_1), ceI G poa 160 Nb2_2, ceI G cha 160 C2_4, ceZ G goa 25600 (fz D2_5), ceI G lea 160 Ls2_6]) (st' := [.int (iI (cN (mal D2_5 H2_1 Ls2_6 mn2_3.toNat u.toNat false) mn2_3.toNat : Int))]) [3, 0, 5, 1, 2, 4, 6] rfl rfl rfl ?_)
            exact vv_iret F zd_MO_about_157 ⟨_, true, _, _, _, _, _, _, _, fun _ => hf1_0, ⟨hf1_0, Or.inr (Or.inr ⟨⟨by omega, by omega⟩, ⟨by omega, by omega⟩, rfl, by unfold mabo; rw [if_neg (by omega)]; rw [if_neg (by omega)]; rw [if_neg (by omega)]; rw [if_neg (by omega)]; rw [if_pos (by omega)]; first | done | rfl⟩)⟩, rfl, rfl⟩
          · refine vv_tableIn (tgt := 158) F zd_MO_about_88 (by first | exact ⟨by omega, by omega⟩ | exact hu | exact hv) (by omega) (by omega) (by rw [h5]; rfl) rfl ?_
            refine vv_aload_n F zd_MO_about_158 rfl 0 rfl ?_
            refine vv_iload_n F zd_MO_about_159 rfl 1 rfl ?_
            refine vv_iconst F zd_MO_about_160 ?_
            refine vv_ti (show (1 : Int) = bZ true from rfl) ?_
            refine vv_callV (q0 := 0) (As := [.int (iI u), .int (iI (bZ true))]) (rest := []) (wr := [ceZ G tha 25600 (fz B), ceI G poa 160 Nb2_2, ceI G cha 160 C2_4]) F (cn_MO_alone l G mo 0 n ac tha true rea poa mn2_3 cha goa lea nv mm fia sea ck sta lda vla gd fl dia qua D2_5 H2_1 Ls2_6 u true ⟨by omega, by omega⟩ ⟨by omega, by omega⟩ hLs2) zm_MO_alone ⟨zw_896, zs_MO_alone⟩ zw_894 zd_MO_about_161 ⟨by decide, by decide⟩ ⟨by decide, by decide⟩ [0, 5, 2, 6] [1, 3, 4] rfl rfl ⟨rfl, rfl, by decide⟩ rfl rfl rfl rfl (Nat.le_of_ble_eq_true rfl) (vv_then (ws' := [ceO 7 mo [.int (iI 0), .int (iI n), .int (iI ac), .ref tha, .int (iI (bZ true)), .ref rea, .ref poa, .int (iI mn2_3), .ref cha, .ref goa, .ref lea, .int (iI nv), .int (iI mm), .ref fia, .ref sea, .int (iI (bZ ck)), .ref sta, .ref lda, .ref vla, .int (iI (bZ gd)), .int (iI fl), .ref dia, .ref qua], ceZ G tha 25600 (fz B), ceZ G rea 25600 (fz H2_1), ceI G poa 160 Nb2_2, ceI G cha 160 C2_4, ceZ G goa 25600 (fz D2_5), ceI G lea 160 Ls2_6]) (st' := [.int (iI (cN (mal D2_5 H2_1 Ls2_6 mn2_3.toNat u.toNat true) mn2_3.toNat : Int))]) [3, 0, 5, 1, 2, 4, 6] rfl rfl rfl ?_)
            exact vv_iret F zd_MO_about_164 ⟨_, true, _, _, _, _, _, _, _, fun _ => hf1_0, ⟨hf1_0, Or.inr (Or.inr ⟨⟨by omega, by omega⟩, ⟨by omega, by omega⟩, rfl, by unfold mabo; rw [if_neg (by omega)]; rw [if_neg (by omega)]; rw [if_neg (by omega)]; rw [if_neg (by omega)]; rw [if_neg (by omega)]; rw [if_pos (by omega)]; first | done | rfl⟩)⟩, rfl, rfl⟩
        · refine vv_iconst F zd_MO_about_31 ?_
          refine vv_goto (tgt := 36) F zd_MO_about_32 rfl ?_
          refine vv_put (v := .int (iI 2)) (ws' := [ceO 7 mo [.int (iI 2), .int (iI n), .int (iI ac), .ref tha, .int (iI (bZ true)), .ref rea, .ref poa, .int (iI mn2_3), .ref cha, .ref goa, .ref lea, .int (iI nv), .int (iI mm), .ref fia, .ref sea, .int (iI (bZ ck)), .ref sta, .ref lda, .ref vla, .int (iI (bZ gd)), .int (iI fl), .ref dia, .ref qua], ceZ G tha 25600 (fz B), ceZ G rea 25600 (fz H2_1), ceI G poa 160 Nb2_2, ceI G cha 160 C2_4, ceZ G goa 25600 (fz D2_5), ceI G lea 160 Ls2_6]) F zd_MO_about_36 zf_MO zt_MO_ok zn_MO 0 rfl rfl 0 (by decide) zw_756 rfl rfl rfl (Nat.le_of_ble_eq_true rfl) rfl ?_
          refine vv_aload_n F zd_MO_about_39 rfl 0 rfl ?_
          refine vv_get F zd_MO_about_40 zf_MO 0 rfl rfl 0 (by decide) zw_756 rfl ?_
          refine vv_if_le (tgt := 48) F zd_MO_about_43 rfl (by decide) (fun h9 => absurd h9 (by decide)) (fun _ => ?_)
          refine vv_iconst F zd_MO_about_46 ?_
          exact vv_iret F zd_MO_about_47 ⟨_, true, _, _, _, _, _, _, _, fun _ => hf1_0, ⟨hf1_0, Or.inr (Or.inl ⟨⟨by omega, by omega⟩, by omega, rfl, rfl⟩)⟩, rfl, rfl⟩
    · refine vv_iconst F zd_MO_about_17 ?_
      refine vv_goto (tgt := 36) F zd_MO_about_18 rfl ?_
      refine vv_put (v := .int (iI 1)) (ws' := [ceO 7 mo [.int (iI 1), .int (iI n), .int (iI ac), .ref tha, .int (iI (bZ true)), .ref rea, .ref poa, .int (iI mn2_3), .ref cha, .ref goa, .ref lea, .int (iI nv), .int (iI mm), .ref fia, .ref sea, .int (iI (bZ ck)), .ref sta, .ref lda, .ref vla, .int (iI (bZ gd)), .int (iI fl), .ref dia, .ref qua], ceZ G tha 25600 (fz B), ceZ G rea 25600 (fz H2_1), ceI G poa 160 Nb2_2, ceI G cha 160 C2_4, ceZ G goa 25600 (fz D2_5), ceI G lea 160 Ls2_6]) F zd_MO_about_36 zf_MO zt_MO_ok zn_MO 0 rfl rfl 0 (by decide) zw_756 rfl rfl rfl (Nat.le_of_ble_eq_true rfl) rfl ?_
      refine vv_aload_n F zd_MO_about_39 rfl 0 rfl ?_
      refine vv_get F zd_MO_about_40 zf_MO 0 rfl rfl 0 (by decide) zw_756 rfl ?_
      refine vv_if_le (tgt := 48) F zd_MO_about_43 rfl (by decide) (fun h9 => absurd h9 (by decide)) (fun _ => ?_)
      refine vv_iconst F zd_MO_about_46 ?_
      exact vv_iret F zd_MO_about_47 ⟨_, true, _, _, _, _, _, _, _, fun _ => hf1_0, ⟨hf1_0, Or.inl ⟨by omega, rfl, rfl⟩⟩, rfl, rfl⟩

/-- how many arcs the reference misses -/
def mmis (H : Nat → Nat → Bool) (Ls : Nat → Int) (mn : Int) (D : Nat → Nat → Bool) : Int :=
  if mn = 1 then 0 else if cN (fun c => decide (cN (mal D H Ls mn.toNat c false) mn.toNat = 0)) mn.toNat < cN (fun c => mbg D c mn.toNat) mn.toNat then (cN (fun c => mbg D c mn.toNat) mn.toNat : Int) else (cN (fun c => decide (cN (mal D H Ls mn.toNat c false) mn.toNat = 0)) mn.toNat : Int)

set_option maxHeartbeats 4000000 in
set_option maxRecDepth 100000 in
theorem lp_MO_mi1 {p : Program} {l : Launch} {e : Env} {s : State} {m : MethodId} {args : Array Value} {below : List Frame} {meth : Method} {c : Code} {A : Nat → Prop} {Q : State → Prop} {G : vv_G} (F : vv_F p s m args meth c zc_MO_missing "ClauseGraphModel" "missing" (some .int) G A 6) (mo : Nat) (th : Int) (n : Int) (ac : Int) (tha : Nat) (gk : Bool) (rea : Nat) (poa : Nat) (mn : Int) (cha : Nat) (goa : Nat) (lea : Nat) (nv : Int) (mm : Int) (fia : Nat) (sea : Nat) (ck : Bool) (sta : Nat) (lda : Nat) (vla : Nat) (gd : Bool) (fl : Int) (dia : Nat) (qua : Nat) (B : Nat → Nat → Bool) (H : Nat → Nat → Bool) (Nb : Nat → Int) (C : Nat → Int) (D : Nat → Nat → Bool) (Ls : Nat → Int) (z1 : Int) (z2 : Int) (i : Int) (hm : 0 ≤ mn ∧ mn ≤ 160) (hLs : ∀ c : Nat, (c : Int) < mn → 0 ≤ Ls c ∧ Ls c < 160) (hi : 0 ≤ i ∧ i < mn)
    (k : ∀ (b : Bool), (0 ≤ mn ∧ b = mbg D i.toNat mn.toNat) → vv_V p l e { frames := 5, cells := 0, slots := 0, locals := 110 } s m args below meth c G A 6 Q 76 [(0, .ref mo), (1, .int (iI z1)), (2, .int (iI z2)), (3, .int (iI i)), (4, .int (iI (bZ b))), (5, .int (iI mn))] [] [ceO 7 mo [.int (iI th), .int (iI n), .int (iI ac), .ref tha, .int (iI (bZ gk)), .ref rea, .ref poa, .int (iI mn), .ref cha, .ref goa, .ref lea, .int (iI nv), .int (iI mm), .ref fia, .ref sea, .int (iI (bZ ck)), .ref sta, .ref lda, .ref vla, .int (iI (bZ gd)), .int (iI fl), .ref dia, .ref qua], ceZ G tha 25600 (fz B), ceZ G rea 25600 (fz H), ceI G poa 160 Nb, ceI G cha 160 C, ceZ G goa 25600 (fz D), ceI G lea 160 Ls] 0 0)  :
    ∀ (d : Nat) (j : Int) (b : Bool), j + (d : Int) = mn → (0 ≤ j ∧ b = mbg D i.toNat j.toNat) → vv_V p l e { frames := 5, cells := 0, slots := 0, locals := 110 } s m args below meth c G A 6 Q 39 [(0, .ref mo), (1, .int (iI z1)), (2, .int (iI z2)), (3, .int (iI i)), (4, .int (iI (bZ b))), (5, .int (iI j))] [] [ceO 7 mo [.int (iI th), .int (iI n), .int (iI ac), .ref tha, .int (iI (bZ gk)), .ref rea, .ref poa, .int (iI mn), .ref cha, .ref goa, .ref lea, .int (iI nv), .int (iI mm), .ref fia, .ref sea, .int (iI (bZ ck)), .ref sta, .ref lda, .ref vla, .int (iI (bZ gd)), .int (iI fl), .ref dia, .ref qua], ceZ G tha 25600 (fz B), ceZ G rea 25600 (fz H), ceI G poa 160 Nb, ceI G cha 160 C, ceZ G goa 25600 (fz D), ceI G lea 160 Ls] 0 0 := by
  intro d
  induction d with
  | zero =>
    intro j b hd hI
    have hz : j = mn := by omega
    subst hz
    refine vv_iload F zd_MO_missing_39 5 rfl ?_
    refine vv_aload_n F zd_MO_missing_41 rfl 0 rfl ?_
    refine vv_get F zd_MO_missing_42 zf_MO 0 rfl rfl 7 (by decide) zw_763 rfl ?_
    refine vv_icmp_ge (tgt := 76) F zd_MO_missing_45 rfl (by first | exact ⟨by omega, by omega⟩) (by first | exact ⟨by omega, by omega⟩) (fun _ => ?_) (fun h9 => absurd h9 (by omega))
    exact k b hI
  | succ d ih =>
    intro j b hd hI
    refine vv_iload F zd_MO_missing_39 5 rfl ?_
    refine vv_aload_n F zd_MO_missing_41 rfl 0 rfl ?_
    refine vv_get F zd_MO_missing_42 zf_MO 0 rfl rfl 7 (by decide) zw_763 rfl ?_
    refine vv_icmp_ge (tgt := 76) F zd_MO_missing_45 rfl (by first | exact ⟨by omega, by omega⟩) (by first | exact ⟨by omega, by omega⟩) (fun h9 => absurd h9 (by omega)) (fun _ => ?_)
    refine vv_iload F zd_MO_missing_48 4 rfl ?_
    refine vv_if_eq (tgt := 67) F zd_MO_missing_50 rfl (bZ_rg _) (fun h1 => ?_) (fun h1 => ?_)
    · have h1 : b = false := (bZ_0 _).mp h1
      refine vv_iconst F zd_MO_missing_67 ?_
      refine vv_ti (show (0 : Int) = bZ false from rfl) ?_
      refine vv_istore (lv' := [(0, .ref mo), (1, .int (iI z1)), (2, .int (iI z2)), (3, .int (iI i)), (4, .int (iI (bZ false))), (5, .int (iI j))]) F zd_MO_missing_68 (by decide) [1, 2, 3, 4, 0, 5] rfl ?_
      refine vv_iinc (j := 5) (lv' := [(0, .ref mo), (1, .int (iI z1)), (2, .int (iI z2)), (3, .int (iI i)), (4, .int (iI (bZ false))), (5, .int (iI (j + 1)))]) F zd_MO_missing_70 rfl (by decide) [1, 2, 3, 4, 5, 0] rfl ?_
      refine vv_goto (tgt := 39) F zd_MO_missing_73 rfl ?_
      exact ih (j + 1) false (by omega) (⟨by omega, by rw [show (j + 1).toNat = j.toNat + 1 by omega, mbg_s, ← hI.2]; rw [h1]; rfl⟩)
    · have h1 : b = true := by cases hb9 : b with | true => rfl | false => exact absurd ((bZ_0 _).mpr hb9) h1
      refine vv_aload_n F zd_MO_missing_53 rfl 0 rfl ?_
      refine vv_iload F zd_MO_missing_54 5 rfl ?_
      refine vv_iload_n F zd_MO_missing_56 rfl 3 rfl ?_
      refine vv_callV (q0 := 0) (As := [.int (iI j), .int (iI i)]) (rest := []) (wr := [ceZ G tha 25600 (fz B), ceZ G rea 25600 (fz H), ceI G poa 160 Nb, ceI G cha 160 C, ceI G lea 160 Ls]) F (cn_MO_goesTo l G mo th n ac tha gk rea poa mn cha goa lea nv mm fia sea ck sta lda vla gd fl dia qua D j i ⟨by omega, by omega⟩ ⟨by omega, by omega⟩) zm_MO_goesTo ⟨zw_880, zs_MO_goesTo⟩ zw_878 zd_MO_missing_57 ⟨by decide, by decide⟩ ⟨by decide, by decide⟩ [0, 5] [1, 2, 3, 4, 6] rfl rfl ⟨rfl, rfl, by decide⟩ rfl rfl rfl rfl (Nat.le_of_ble_eq_true rfl) (vv_then (ws' := [ceO 7 mo [.int (iI th), .int (iI n), .int (iI ac), .ref tha, .int (iI (bZ gk)), .ref rea, .ref poa, .int (iI mn), .ref cha, .ref goa, .ref lea, .int (iI nv), .int (iI mm), .ref fia, .ref sea, .int (iI (bZ ck)), .ref sta, .ref lda, .ref vla, .int (iI (bZ gd)), .int (iI fl), .ref dia, .ref qua], ceZ G tha 25600 (fz B), ceZ G rea 25600 (fz H), ceI G poa 160 Nb, ceI G cha 160 C, ceZ G goa 25600 (fz D), ceI G lea 160 Ls]) (st' := [.int (iI (bZ (D j.toNat i.toNat)))]) [5, 0, 1, 2, 3, 6, 4] rfl rfl rfl ?_)
      refine vv_if_ne (tgt := 67) F zd_MO_missing_60 rfl (bZ_rg _) (fun h2 => ?_) (fun h2 => ?_)
      · have h2 : (D j.toNat i.toNat) = true := by cases hb9 : (D j.toNat i.toNat) with | true => rfl | false => exact absurd ((bZ_0 _).mpr hb9) h2
        refine vv_iconst F zd_MO_missing_67 ?_
        refine vv_ti (show (0 : Int) = bZ false from rfl) ?_
        refine vv_istore (lv' := [(0, .ref mo), (1, .int (iI z1)), (2, .int (iI z2)), (3, .int (iI i)), (4, .int (iI (bZ false))), (5, .int (iI j))]) F zd_MO_missing_68 (by decide) [1, 2, 3, 4, 0, 5] rfl ?_
        refine vv_iinc (j := 5) (lv' := [(0, .ref mo), (1, .int (iI z1)), (2, .int (iI z2)), (3, .int (iI i)), (4, .int (iI (bZ false))), (5, .int (iI (j + 1)))]) F zd_MO_missing_70 rfl (by decide) [1, 2, 3, 4, 5, 0] rfl ?_
        refine vv_goto (tgt := 39) F zd_MO_missing_73 rfl ?_
        exact ih (j + 1) false (by omega) (⟨by omega, by rw [show (j + 1).toNat = j.toNat + 1 by omega, mbg_s, ← hI.2]; rw [h1, h2]; rfl⟩)
      · have h2 : (D j.toNat i.toNat) = false := (bZ_0 _).mp h2
        refine vv_iconst F zd_MO_missing_63 ?_
        refine vv_goto (tgt := 68) F zd_MO_missing_64 rfl ?_
        refine vv_ti (show (1 : Int) = bZ true from rfl) ?_
        refine vv_istore (lv' := [(0, .ref mo), (1, .int (iI z1)), (2, .int (iI z2)), (3, .int (iI i)), (4, .int (iI (bZ true))), (5, .int (iI j))]) F zd_MO_missing_68 (by decide) [1, 2, 3, 4, 0, 5] rfl ?_
        refine vv_iinc (j := 5) (lv' := [(0, .ref mo), (1, .int (iI z1)), (2, .int (iI z2)), (3, .int (iI i)), (4, .int (iI (bZ true))), (5, .int (iI (j + 1)))]) F zd_MO_missing_70 rfl (by decide) [1, 2, 3, 4, 5, 0] rfl ?_
        refine vv_goto (tgt := 39) F zd_MO_missing_73 rfl ?_
        exact ih (j + 1) true (by omega) (⟨by omega, by rw [show (j + 1).toNat = j.toNat + 1 by omega, mbg_s, ← hI.2]; rw [h1, h2]; rfl⟩)

set_option maxHeartbeats 4000000 in
set_option maxRecDepth 100000 in
theorem lp_MO_mi {p : Program} {l : Launch} {e : Env} {s : State} {m : MethodId} {args : Array Value} {below : List Frame} {meth : Method} {c : Code} {A : Nat → Prop} {Q : State → Prop} {G : vv_G} (F : vv_F p s m args meth c zc_MO_missing "ClauseGraphModel" "missing" (some .int) G A 6) (mo : Nat) (th : Int) (n : Int) (ac : Int) (tha : Nat) (gk : Bool) (rea : Nat) (poa : Nat) (mn : Int) (cha : Nat) (goa : Nat) (lea : Nat) (nv : Int) (mm : Int) (fia : Nat) (sea : Nat) (ck : Bool) (sta : Nat) (lda : Nat) (vla : Nat) (gd : Bool) (fl : Int) (dia : Nat) (qua : Nat) (B : Nat → Nat → Bool) (H : Nat → Nat → Bool) (Nb : Nat → Int) (C : Nat → Int) (D : Nat → Nat → Bool) (Ls : Nat → Int) (hm : 0 ≤ mn ∧ mn ≤ 160) (hLs : ∀ c : Nat, (c : Int) < mn → 0 ≤ Ls c ∧ Ls c < 160)
    (k : ∀ (z1 : Int) (z2 : Int), (0 ≤ mn ∧ z1 = (cN (fun c => mbg D c mn.toNat) mn.toNat : Int) ∧ z2 = (cN (fun c => decide (cN (mal D H Ls mn.toNat c false) mn.toNat = 0)) mn.toNat : Int)) → vv_V p l e { frames := 5, cells := 0, slots := 0, locals := 110 } s m args below meth c G A 6 Q 112 [(0, .ref mo), (1, .int (iI z1)), (2, .int (iI z2)), (3, .int (iI mn))] [] [ceO 7 mo [.int (iI th), .int (iI n), .int (iI ac), .ref tha, .int (iI (bZ gk)), .ref rea, .ref poa, .int (iI mn), .ref cha, .ref goa, .ref lea, .int (iI nv), .int (iI mm), .ref fia, .ref sea, .int (iI (bZ ck)), .ref sta, .ref lda, .ref vla, .int (iI (bZ gd)), .int (iI fl), .ref dia, .ref qua], ceZ G tha 25600 (fz B), ceZ G rea 25600 (fz H), ceI G poa 160 Nb, ceI G cha 160 C, ceZ G goa 25600 (fz D), ceI G lea 160 Ls] 0 0)  :
    ∀ (d : Nat) (i : Int) (z1 : Int) (z2 : Int), i + (d : Int) = mn → (0 ≤ i ∧ z1 = (cN (fun c => mbg D c mn.toNat) i.toNat : Int) ∧ z2 = (cN (fun c => decide (cN (mal D H Ls mn.toNat c false) mn.toNat = 0)) i.toNat : Int)) → vv_V p l e { frames := 5, cells := 0, slots := 0, locals := 110 } s m args below meth c G A 6 Q 25 [(0, .ref mo), (1, .int (iI z1)), (2, .int (iI z2)), (3, .int (iI i))] [] [ceO 7 mo [.int (iI th), .int (iI n), .int (iI ac), .ref tha, .int (iI (bZ gk)), .ref rea, .ref poa, .int (iI mn), .ref cha, .ref goa, .ref lea, .int (iI nv), .int (iI mm), .ref fia, .ref sea, .int (iI (bZ ck)), .ref sta, .ref lda, .ref vla, .int (iI (bZ gd)), .int (iI fl), .ref dia, .ref qua], ceZ G tha 25600 (fz B), ceZ G rea 25600 (fz H), ceI G poa 160 Nb, ceI G cha 160 C, ceZ G goa 25600 (fz D), ceI G lea 160 Ls] 0 0 := by
  intro d
  induction d with
  | zero =>
    intro i z1 z2 hd hI
    have hz : i = mn := by omega
    subst hz
    refine vv_iload_n F zd_MO_missing_25 rfl 3 rfl ?_
    refine vv_aload_n F zd_MO_missing_26 rfl 0 rfl ?_
    refine vv_get F zd_MO_missing_27 zf_MO 0 rfl rfl 7 (by decide) zw_763 rfl ?_
    refine vv_icmp_ge (tgt := 112) F zd_MO_missing_30 rfl (by first | exact ⟨by omega, by omega⟩) (by first | exact ⟨by omega, by omega⟩) (fun _ => ?_) (fun h9 => absurd h9 (by omega))
    exact k z1 z2 hI
  | succ d ih =>
    intro i z1 z2 hd hI
    have q9 := cN_le (mal D H Ls mn.toNat i.toNat false) mn.toNat
    refine vv_iload_n F zd_MO_missing_25 rfl 3 rfl ?_
    refine vv_aload_n F zd_MO_missing_26 rfl 0 rfl ?_
    refine vv_get F zd_MO_missing_27 zf_MO 0 rfl rfl 7 (by decide) zw_763 rfl ?_
    refine vv_icmp_ge (tgt := 112) F zd_MO_missing_30 rfl (by first | exact ⟨by omega, by omega⟩) (by first | exact ⟨by omega, by omega⟩) (fun h9 => absurd h9 (by omega)) (fun _ => ?_)
    refine vv_iconst F zd_MO_missing_33 ?_
    refine vv_ti (show (1 : Int) = bZ true from rfl) ?_
    refine vv_istore (lv' := [(0, .ref mo), (1, .int (iI z1)), (2, .int (iI z2)), (3, .int (iI i)), (4, .int (iI (bZ true)))]) F zd_MO_missing_34 (by decide) [1, 2, 3, 4, 0] rfl ?_
    refine vv_iconst F zd_MO_missing_36 ?_
    refine vv_istore (lv' := [(0, .ref mo), (1, .int (iI z1)), (2, .int (iI z2)), (3, .int (iI i)), (4, .int (iI (bZ true))), (5, .int (iI 0))]) F zd_MO_missing_37 (by decide) [1, 2, 3, 4, 5, 0] rfl ?_
    refine lp_MO_mi1 F mo th n ac tha gk rea poa mn cha goa lea nv mm fia sea ck sta lda vla gd fl dia qua B H Nb C D Ls z1 z2 i hm hLs ⟨by omega, by omega⟩ (fun b9 hJ => ?_) mn.toNat 0 true (by omega) ⟨by omega, rfl⟩
    refine vv_iload F zd_MO_missing_76 4 rfl ?_
    refine vv_if_eq (tgt := 87) F zd_MO_missing_78 rfl (bZ_rg _) (fun h1 => ?_) (fun h1 => ?_)
    · have h1 : b9 = false := (bZ_0 _).mp h1
      refine vv_iload_n F zd_MO_missing_87 rfl 1 rfl ?_
      refine vv_istore_n (lv' := [(0, .ref mo), (1, .int (iI z1)), (2, .int (iI z2)), (3, .int (iI i)), (4, .int (iI (bZ b9))), (5, .int (iI mn))]) F zd_MO_missing_88 rfl (by decide) [1, 0, 2, 3, 4, 5] rfl ?_
      refine vv_aload_n F zd_MO_missing_89 rfl 0 rfl ?_
      refine vv_iload_n F zd_MO_missing_90 rfl 3 rfl ?_
      refine vv_iconst F zd_MO_missing_91 ?_
      refine vv_ti (show (0 : Int) = bZ false from rfl) ?_
      refine vv_callV (q0 := 0) (As := [.int (iI i), .int (iI (bZ false))]) (rest := []) (wr := [ceZ G tha 25600 (fz B), ceI G poa 160 Nb, ceI G cha 160 C]) F (cn_MO_alone l G mo th n ac tha gk rea poa mn cha goa lea nv mm fia sea ck sta lda vla gd fl dia qua D H Ls i false hm ⟨by omega, by omega⟩ hLs) zm_MO_alone ⟨zw_896, zs_MO_alone⟩ zw_894 zd_MO_missing_92 ⟨by decide, by decide⟩ ⟨by decide, by decide⟩ [0, 5, 2, 6] [1, 3, 4] rfl rfl ⟨rfl, rfl, by decide⟩ rfl rfl rfl rfl (Nat.le_of_ble_eq_true rfl) (vv_then (ws' := [ceO 7 mo [.int (iI th), .int (iI n), .int (iI ac), .ref tha, .int (iI (bZ gk)), .ref rea, .ref poa, .int (iI mn), .ref cha, .ref goa, .ref lea, .int (iI nv), .int (iI mm), .ref fia, .ref sea, .int (iI (bZ ck)), .ref sta, .ref lda, .ref vla, .int (iI (bZ gd)), .int (iI fl), .ref dia, .ref qua], ceZ G tha 25600 (fz B), ceZ G rea 25600 (fz H), ceI G poa 160 Nb, ceI G cha 160 C, ceZ G goa 25600 (fz D), ceI G lea 160 Ls]) (st' := [.int (iI (cN (mal D H Ls mn.toNat i.toNat false) mn.toNat : Int))]) [3, 0, 5, 1, 2, 4, 6] rfl rfl rfl ?_)
      refine vv_if_ne (tgt := 104) F zd_MO_missing_95 rfl (by first | exact ⟨by omega, by omega⟩) (fun h2 => ?_) (fun h2 => ?_)
      · refine vv_iload_n F zd_MO_missing_104 rfl 2 rfl ?_
        refine vv_istore_n (lv' := [(0, .ref mo), (1, .int (iI z1)), (2, .int (iI z2)), (3, .int (iI i)), (4, .int (iI (bZ b9))), (5, .int (iI mn))]) F zd_MO_missing_105 rfl (by decide) [1, 2, 0, 3, 4, 5] rfl ?_
        refine vv_iinc (j := 3) (lv' := [(0, .ref mo), (1, .int (iI z1)), (2, .int (iI z2)), (3, .int (iI (i + 1))), (4, .int (iI (bZ b9))), (5, .int (iI mn))]) F zd_MO_missing_106 rfl (by decide) [1, 2, 3, 0, 4, 5] rfl ?_
        refine vv_goto (tgt := 25) F zd_MO_missing_109 rfl ?_
        refine vv_locals (lv' := [(0, .ref mo), (1, .int (iI z1)), (2, .int (iI z2)), (3, .int (iI (i + 1)))]) [0, 1, 2, 3] rfl ?_
        exact ih (i + 1) z1 z2 (by omega) (⟨by omega, by
      rw [show (i + 1).toNat = i.toNat + 1 by omega, cN_f (g := (fun c => mbg D c mn.toNat)) (by show mbg D i.toNat mn.toNat = _; rw [← hJ.2]; exact h1)]; have h8 := hI.2.1; omega, by
      rw [show (i + 1).toNat = i.toNat + 1 by omega, cN_f (g := (fun c => decide (cN (mal D H Ls mn.toNat c false) mn.toNat = 0))) (decide_eq_false (by omega))]; have h8 := hI.2.2; omega⟩)
      · refine vv_iload_n F zd_MO_missing_98 rfl 2 rfl ?_
        refine vv_iconst F zd_MO_missing_99 ?_
        refine vv_iadd F zd_MO_missing_100 ?_
        refine vv_goto (tgt := 105) F zd_MO_missing_101 rfl ?_
        refine vv_istore_n (lv' := [(0, .ref mo), (1, .int (iI z1)), (2, .int (iI (z2 + 1))), (3, .int (iI i)), (4, .int (iI (bZ b9))), (5, .int (iI mn))]) F zd_MO_missing_105 rfl (by decide) [1, 2, 0, 3, 4, 5] rfl ?_
        refine vv_iinc (j := 3) (lv' := [(0, .ref mo), (1, .int (iI z1)), (2, .int (iI (z2 + 1))), (3, .int (iI (i + 1))), (4, .int (iI (bZ b9))), (5, .int (iI mn))]) F zd_MO_missing_106 rfl (by decide) [1, 2, 3, 0, 4, 5] rfl ?_
        refine vv_goto (tgt := 25) F zd_MO_missing_109 rfl ?_
        refine vv_locals (lv' := [(0, .ref mo), (1, .int (iI z1)), (2, .int (iI (z2 + 1))), (3, .int (iI (i + 1)))]) [0, 1, 2, 3] rfl ?_
        exact ih (i + 1) z1 (z2 + 1) (by omega) (⟨by omega, by
      rw [show (i + 1).toNat = i.toNat + 1 by omega, cN_f (g := (fun c => mbg D c mn.toNat)) (by show mbg D i.toNat mn.toNat = _; rw [← hJ.2]; exact h1)]; have h8 := hI.2.1; omega, by
      rw [show (i + 1).toNat = i.toNat + 1 by omega, cN_t (g := (fun c => decide (cN (mal D H Ls mn.toNat c false) mn.toNat = 0))) (decide_eq_true (by omega))]; have h8 := hI.2.2; omega⟩)
    · have h1 : b9 = true := by cases hb9 : b9 with | true => rfl | false => exact absurd ((bZ_0 _).mpr hb9) h1
      refine vv_iload_n F zd_MO_missing_81 rfl 1 rfl ?_
      refine vv_iconst F zd_MO_missing_82 ?_
      refine vv_iadd F zd_MO_missing_83 ?_
      refine vv_goto (tgt := 88) F zd_MO_missing_84 rfl ?_
      refine vv_istore_n (lv' := [(0, .ref mo), (1, .int (iI (z1 + 1))), (2, .int (iI z2)), (3, .int (iI i)), (4, .int (iI (bZ b9))), (5, .int (iI mn))]) F zd_MO_missing_88 rfl (by decide) [1, 0, 2, 3, 4, 5] rfl ?_
      refine vv_aload_n F zd_MO_missing_89 rfl 0 rfl ?_
      refine vv_iload_n F zd_MO_missing_90 rfl 3 rfl ?_
      refine vv_iconst F zd_MO_missing_91 ?_
      refine vv_ti (show (0 : Int) = bZ false from rfl) ?_
      refine vv_callV (q0 := 0) (As := [.int (iI i), .int (iI (bZ false))]) (rest := []) (wr := [ceZ G tha 25600 (fz B), ceI G poa 160 Nb, ceI G cha 160 C]) F (cn_MO_alone l G mo th n ac tha gk rea poa mn cha goa lea nv mm fia sea ck sta lda vla gd fl dia qua D H Ls i false hm ⟨by omega, by omega⟩ hLs) zm_MO_alone ⟨zw_896, zs_MO_alone⟩ zw_894 zd_MO_missing_92 ⟨by decide, by decide⟩ ⟨by decide, by decide⟩ [0, 5, 2, 6] [1, 3, 4] rfl rfl ⟨rfl, rfl, by decide⟩ rfl rfl rfl rfl (Nat.le_of_ble_eq_true rfl) (vv_then (ws' := [ceO 7 mo [.int (iI th), .int (iI n), .int (iI ac), .ref tha, .int (iI (bZ gk)), .ref rea, .ref poa, .int (iI mn), .ref cha, .ref goa, .ref lea, .int (iI nv), .int (iI mm), .ref fia, .ref sea, .int (iI (bZ ck)), .ref sta, .ref lda, .ref vla, .int (iI (bZ gd)), .int (iI fl), .ref dia, .ref qua], ceZ G tha 25600 (fz B), ceZ G rea 25600 (fz H), ceI G poa 160 Nb, ceI G cha 160 C, ceZ G goa 25600 (fz D), ceI G lea 160 Ls]) (st' := [.int (iI (cN (mal D H Ls mn.toNat i.toNat false) mn.toNat : Int))]) [3, 0, 5, 1, 2, 4, 6] rfl rfl rfl ?_)
      refine vv_if_ne (tgt := 104) F zd_MO_missing_95 rfl (by first | exact ⟨by omega, by omega⟩) (fun h3 => ?_) (fun h3 => ?_)
      · refine vv_iload_n F zd_MO_missing_104 rfl 2 rfl ?_
        refine vv_istore_n (lv' := [(0, .ref mo), (1, .int (iI (z1 + 1))), (2, .int (iI z2)), (3, .int (iI i)), (4, .int (iI (bZ b9))), (5, .int (iI mn))]) F zd_MO_missing_105 rfl (by decide) [1, 2, 0, 3, 4, 5] rfl ?_
        refine vv_iinc (j := 3) (lv' := [(0, .ref mo), (1, .int (iI (z1 + 1))), (2, .int (iI z2)), (3, .int (iI (i + 1))), (4, .int (iI (bZ b9))), (5, .int (iI mn))]) F zd_MO_missing_106 rfl (by decide) [1, 2, 3, 0, 4, 5] rfl ?_
        refine vv_goto (tgt := 25) F zd_MO_missing_109 rfl ?_
        refine vv_locals (lv' := [(0, .ref mo), (1, .int (iI (z1 + 1))), (2, .int (iI z2)), (3, .int (iI (i + 1)))]) [0, 1, 2, 3] rfl ?_
        exact ih (i + 1) (z1 + 1) z2 (by omega) (⟨by omega, by
      rw [show (i + 1).toNat = i.toNat + 1 by omega, cN_t (g := (fun c => mbg D c mn.toNat)) (by show mbg D i.toNat mn.toNat = _; rw [← hJ.2]; exact h1)]; have h8 := hI.2.1; omega, by
      rw [show (i + 1).toNat = i.toNat + 1 by omega, cN_f (g := (fun c => decide (cN (mal D H Ls mn.toNat c false) mn.toNat = 0))) (decide_eq_false (by omega))]; have h8 := hI.2.2; omega⟩)
      · refine vv_iload_n F zd_MO_missing_98 rfl 2 rfl ?_
        refine vv_iconst F zd_MO_missing_99 ?_
        refine vv_iadd F zd_MO_missing_100 ?_
        refine vv_goto (tgt := 105) F zd_MO_missing_101 rfl ?_
        refine vv_istore_n (lv' := [(0, .ref mo), (1, .int (iI (z1 + 1))), (2, .int (iI (z2 + 1))), (3, .int (iI i)), (4, .int (iI (bZ b9))), (5, .int (iI mn))]) F zd_MO_missing_105 rfl (by decide) [1, 2, 0, 3, 4, 5] rfl ?_
        refine vv_iinc (j := 3) (lv' := [(0, .ref mo), (1, .int (iI (z1 + 1))), (2, .int (iI (z2 + 1))), (3, .int (iI (i + 1))), (4, .int (iI (bZ b9))), (5, .int (iI mn))]) F zd_MO_missing_106 rfl (by decide) [1, 2, 3, 0, 4, 5] rfl ?_
        refine vv_goto (tgt := 25) F zd_MO_missing_109 rfl ?_
        refine vv_locals (lv' := [(0, .ref mo), (1, .int (iI (z1 + 1))), (2, .int (iI (z2 + 1))), (3, .int (iI (i + 1)))]) [0, 1, 2, 3] rfl ?_
        exact ih (i + 1) (z1 + 1) (z2 + 1) (by omega) (⟨by omega, by
      rw [show (i + 1).toNat = i.toNat + 1 by omega, cN_t (g := (fun c => mbg D c mn.toNat)) (by show mbg D i.toNat mn.toNat = _; rw [← hJ.2]; exact h1)]; have h8 := hI.2.1; omega, by
      rw [show (i + 1).toNat = i.toNat + 1 by omega, cN_t (g := (fun c => decide (cN (mal D H Ls mn.toNat c false) mn.toNat = 0))) (decide_eq_true (by omega))]; have h8 := hI.2.2; omega⟩)

set_option maxHeartbeats 4000000 in
set_option maxRecDepth 100000 in
theorem cn_MO_missing (l : Launch) (G : vv_G) (mo : Nat) (th : Int) (n : Int) (ac : Int) (tha : Nat) (gk : Bool) (rea : Nat) (poa : Nat) (mn : Int) (cha : Nat) (goa : Nat) (lea : Nat) (nv : Int) (mm : Int) (fia : Nat) (sea : Nat) (ck : Bool) (sta : Nat) (lda : Nat) (vla : Nat) (gd : Bool) (fl : Int) (dia : Nat) (qua : Nat) (B : Nat → Nat → Bool) (H : Nat → Nat → Bool) (Nb : Nat → Int) (C : Nat → Int) (D : Nat → Nat → Bool) (Ls : Nat → Int) (hn : 1 ≤ n ∧ n ≤ 160) (hB : ∀ x y, B x y = true → x < n.toNat ∧ y < n.toNat) (hg : gk = true → mK B n.toNat H Nb Ls mn D C) :
    vv_C l zy_MO_missing zc_MO_missing 6 (some .int) { frames := 5, cells := 0, slots := 0, locals := 110 } G [.ref mo] [ceO 7 mo [.int (iI th), .int (iI n), .int (iI ac), .ref tha, .int (iI (bZ gk)), .ref rea, .ref poa, .int (iI mn), .ref cha, .ref goa, .ref lea, .int (iI nv), .int (iI mm), .ref fia, .ref sea, .int (iI (bZ ck)), .ref sta, .ref lda, .ref vla, .int (iI (bZ gd)), .int (iI fl), .ref dia, .ref qua], ceZ G tha 25600 (fz B), ceZ G rea 25600 (fz H), ceI G poa 160 Nb, ceI G cha 160 C, ceZ G goa 25600 (fz D), ceI G lea 160 Ls] (fun v7 w7 => ∃ (th2 : Int) (gk2 : Bool) (H2 : Nat → Nat → Bool) (Nb2 : Nat → Int) (mn2 : Int) (C2 : Nat → Int) (D2 : Nat → Nat → Bool) (Ls2 : Nat → Int) (z : Int), (gk2 = true → mK B n.toNat H2 Nb2 Ls2 mn2 D2 C2) ∧ (th2 = 0 ∧ mK B n.toNat H2 Nb2 Ls2 mn2 D2 C2 ∧ z = mmis H2 Ls2 mn2 D2) ∧ v7 = some (.int (iI z)) ∧ w7 = [ceO 7 mo [.int (iI th2), .int (iI n), .int (iI ac), .ref tha, .int (iI (bZ gk2)), .ref rea, .ref poa, .int (iI mn2), .ref cha, .ref goa, .ref lea, .int (iI nv), .int (iI mm), .ref fia, .ref sea, .int (iI (bZ ck)), .ref sta, .ref lda, .ref vla, .int (iI (bZ gd)), .int (iI fl), .ref dia, .ref qua], ceZ G tha 25600 (fz B), ceZ G rea 25600 (fz H2), ceI G poa 160 Nb2, ceI G cha 160 C2, ceZ G goa 25600 (fz D2), ceI G lea 160 Ls2]) := by
  refine vv_met (by decide +kernel) (Nat.le_of_ble_eq_true rfl) rfl ?_
  intro p e s m args below meth c A F
  refine vv_aload_n F zd_MO_missing_0 rfl 0 rfl ?_
  refine vv_iconst F zd_MO_missing_1 ?_
  refine vv_put (v := .int (iI 0)) (ws' := [ceO 7 mo [.int (iI 0), .int (iI n), .int (iI ac), .ref tha, .int (iI (bZ gk)), .ref rea, .ref poa, .int (iI mn), .ref cha, .ref goa, .ref lea, .int (iI nv), .int (iI mm), .ref fia, .ref sea, .int (iI (bZ ck)), .ref sta, .ref lda, .ref vla, .int (iI (bZ gd)), .int (iI fl), .ref dia, .ref qua], ceZ G tha 25600 (fz B), ceZ G rea 25600 (fz H), ceI G poa 160 Nb, ceI G cha 160 C, ceZ G goa 25600 (fz D), ceI G lea 160 Ls]) F zd_MO_missing_2 zf_MO zt_MO_ok zn_MO 0 rfl rfl 0 (by decide) zw_756 rfl rfl rfl (Nat.le_of_ble_eq_true rfl) rfl ?_
  refine vv_aload_n F zd_MO_missing_5 rfl 0 rfl ?_
  refine vv_callV (q0 := 0) (As := []) (rest := []) (wr := []) F (cn_MO_know l G mo 0 n ac tha gk rea poa mn cha goa lea nv mm fia sea ck sta lda vla gd fl dia qua B H Nb C D Ls ⟨by omega, by omega⟩ hB hg) zm_MO_know ⟨zw_856, zs_MO_know⟩ zw_854 zd_MO_missing_6 ⟨by decide, by decide⟩ ⟨by decide, by decide⟩ [0, 1, 2, 3, 4, 5, 6] [] rfl rfl ⟨rfl, rfl, by decide⟩ rfl rfl rfl rfl (Nat.le_of_ble_eq_true rfl) (fun v9 w9 hp9 => ?_)
  obtain ⟨H2_1, Nb2_2, mn2_3, C2_4, D2_5, Ls2_6, hf1_0, rfl, rfl⟩ := hp9
  refine vv_thenE (ws' := [ceO 7 mo [.int (iI 0), .int (iI n), .int (iI ac), .ref tha, .int (iI (bZ true)), .ref rea, .ref poa, .int (iI mn2_3), .ref cha, .ref goa, .ref lea, .int (iI nv), .int (iI mm), .ref fia, .ref sea, .int (iI (bZ ck)), .ref sta, .ref lda, .ref vla, .int (iI (bZ gd)), .int (iI fl), .ref dia, .ref qua], ceZ G tha 25600 (fz B), ceZ G rea 25600 (fz H2_1), ceI G poa 160 Nb2_2, ceI G cha 160 C2_4, ceZ G goa 25600 (fz D2_5), ceI G lea 160 Ls2_6]) (st' := []) (kc' := 0) (ks' := 0) [0, 1, 2, 3, 4, 5, 6] rfl rfl rfl ?_
  obtain ⟨k1, k2, k3, k4⟩ := numC_in hf1_0.2.1
  have hNb2 : ∀ j, j < n.toNat → 0 ≤ Nb2_2 j ∧ Nb2_2 j < 160 := fun j hj => by have := k1 j hj; omega
  have hLs2 : ∀ c : Nat, (c : Int) < mn2_3 → 0 ≤ Ls2_6 c ∧ Ls2_6 c < 160 := fun c hc => by have := k2 c hc; omega
  refine vv_aload_n F zd_MO_missing_9 rfl 0 rfl ?_
  refine vv_get F zd_MO_missing_10 zf_MO 0 rfl rfl 7 (by decide) zw_763 rfl ?_
  refine vv_iconst F zd_MO_missing_13 ?_
  refine vv_icmp_ne (tgt := 19) F zd_MO_missing_14 rfl (by first | exact ⟨by omega, by omega⟩) (by decide) (fun h1 => ?_) (fun h1 => ?_)
  · refine vv_iconst F zd_MO_missing_19 ?_
    refine vv_istore_n (lv' := [(0, .ref mo), (1, .int (iI 0))]) F zd_MO_missing_20 rfl (by decide) [1, 0] rfl ?_
    refine vv_iconst F zd_MO_missing_21 ?_
    refine vv_istore_n (lv' := [(0, .ref mo), (1, .int (iI 0)), (2, .int (iI 0))]) F zd_MO_missing_22 rfl (by decide) [1, 2, 0] rfl ?_
    refine vv_iconst F zd_MO_missing_23 ?_
    refine vv_istore_n (lv' := [(0, .ref mo), (1, .int (iI 0)), (2, .int (iI 0)), (3, .int (iI 0))]) F zd_MO_missing_24 rfl (by decide) [1, 2, 3, 0] rfl ?_
    refine lp_MO_mi F mo 0 n ac tha true rea poa mn2_3 cha goa lea nv mm fia sea ck sta lda vla gd fl dia qua B H2_1 Nb2_2 C2_4 D2_5 Ls2_6 ⟨by omega, by omega⟩ hLs2 (fun z1 z2 hI => ?_) (mn2_3).toNat 0 0 0 (by omega) ⟨by omega, rfl, rfl⟩
    obtain ⟨-, rfl, rfl⟩ := hI
    have b1 := cN_le (fun c => mbg D2_5 c mn2_3.toNat) mn2_3.toNat
    have b2 := cN_le (fun c => decide (cN (mal D2_5 H2_1 Ls2_6 mn2_3.toNat c false) mn2_3.toNat = 0)) mn2_3.toNat
    refine vv_iload_n F zd_MO_missing_112 rfl 1 rfl ?_
    refine vv_iload_n F zd_MO_missing_113 rfl 2 rfl ?_
    refine vv_icmp_le (tgt := 121) F zd_MO_missing_114 rfl (by first | exact ⟨by omega, by omega⟩) (by first | exact ⟨by omega, by omega⟩) (fun h2 => ?_) (fun h2 => ?_)
    · refine vv_iload_n F zd_MO_missing_121 rfl 2 rfl ?_
      exact vv_iret F zd_MO_missing_122 ⟨_, true, _, _, _, _, _, _, _, fun _ => hf1_0, ⟨rfl, hf1_0, by unfold mmis; rw [if_neg (by omega), if_neg (by omega)]⟩, rfl, rfl⟩
    · refine vv_iload_n F zd_MO_missing_117 rfl 1 rfl ?_
      refine vv_goto (tgt := 122) F zd_MO_missing_118 rfl ?_
      exact vv_iret F zd_MO_missing_122 ⟨_, true, _, _, _, _, _, _, _, fun _ => hf1_0, ⟨rfl, hf1_0, by unfold mmis; rw [if_neg (by omega), if_pos (by omega)]⟩, rfl, rfl⟩
  · refine vv_iconst F zd_MO_missing_17 ?_
    exact vv_iret F zd_MO_missing_18 ⟨_, true, _, _, _, _, _, _, _, fun _ => hf1_0, ⟨rfl, hf1_0, by unfold mmis; rw [if_pos (by omega)]⟩, rfl, rfl⟩
