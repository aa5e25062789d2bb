set_option maxHeartbeats 4000000 in
set_option maxRecDepth 100000 in
theorem lp_MO_ih {p : Program} {l : Launch} {e : Env} {s : State} {m : MethodId} {args : Array Value} {below : List Frame} {meth : Method} {c : Code} {A : Nat → Prop} {G : vv_G} (F : vv_F p s m args meth c zc_MO_isHeld "ClauseGraphModel" "isHeld" (some .boolean) G A 3) (mo : Nat) (th : Int) (n : Int) (ac : Int) (tha : Nat) (gk : Bool) (rea : Nat) (poa : Nat) (mn : Int) (cha : Nat) (goa : Nat) (lea : Nat) (nv : Int) (mm : Int) (fia : Nat) (sea : Nat) (ck : Bool) (sta : Nat) (lda : Nat) (vla : Nat) (gd : Bool) (fl : Int) (dia : Nat) (qua : Nat) (H : Nat → Nat → Bool) (Nb : Nat → Int) (u : Int) (hn : 0 ≤ n ∧ n ≤ 160) (hu : 0 ≤ u ∧ u < 160) (hNb : ∀ j, j < n.toNat → -1 ≤ Nb j ∧ Nb j < 160)
    (k : (0 ≤ n ∧ ∀ j : Nat, (j : Int) < n → hld H Nb u.toNat j = false) → vv_V p l e { frames := 2, cells := 0, slots := 0, locals := 43 } s m args below meth c G A 3 (vv_R below args s { frames := 2, cells := 0, slots := 0, locals := 43 } G A (fun v7 w7 => v7 = some (.int (iI (bZ (decide (cN (hld H Nb u.toNat) n.toNat ≠ 0))))) ∧ w7 = [ceO 7 mo [.int (iI th), .int (iI n), .int (iI ac), .ref tha, .int (iI (bZ gk)), .ref rea, .ref poa, .int (iI mn), .ref cha, .ref goa, .ref lea, .int (iI nv), .int (iI mm), .ref fia, .ref sea, .int (iI (bZ ck)), .ref sta, .ref lda, .ref vla, .int (iI (bZ gd)), .int (iI fl), .ref dia, .ref qua], ceZ G rea 25600 (fz H), ceI G poa 160 Nb])) 50 [(0, .ref mo), (1, .int (iI u)), (2, .int (iI n))] [] [ceO 7 mo [.int (iI th), .int (iI n), .int (iI ac), .ref tha, .int (iI (bZ gk)), .ref rea, .ref poa, .int (iI mn), .ref cha, .ref goa, .ref lea, .int (iI nv), .int (iI mm), .ref fia, .ref sea, .int (iI (bZ ck)), .ref sta, .ref lda, .ref vla, .int (iI (bZ gd)), .int (iI fl), .ref dia, .ref qua], ceZ G rea 25600 (fz H), ceI G poa 160 Nb] 0 0)  :
    ∀ (d : Nat) (i : Int) , i + (d : Int) = n → (0 ≤ i ∧ ∀ j : Nat, (j : Int) < i → hld H Nb u.toNat j = false) → vv_V p l e { frames := 2, cells := 0, slots := 0, locals := 43 } s m args below meth c G A 3 (vv_R below args s { frames := 2, cells := 0, slots := 0, locals := 43 } G A (fun v7 w7 => v7 = some (.int (iI (bZ (decide (cN (hld H Nb u.toNat) n.toNat ≠ 0))))) ∧ w7 = [ceO 7 mo [.int (iI th), .int (iI n), .int (iI ac), .ref tha, .int (iI (bZ gk)), .ref rea, .ref poa, .int (iI mn), .ref cha, .ref goa, .ref lea, .int (iI nv), .int (iI mm), .ref fia, .ref sea, .int (iI (bZ ck)), .ref sta, .ref lda, .ref vla, .int (iI (bZ gd)), .int (iI fl), .ref dia, .ref qua], ceZ G rea 25600 (fz H), ceI G poa 160 Nb])) 2 [(0, .ref mo), (1, .int (iI u)), (2, .int (iI i))] [] [ceO 7 mo [.int (iI th), .int (iI n), .int (iI ac), .ref tha, .int (iI (bZ gk)), .ref rea, .ref poa, .int (iI mn), .ref cha, .ref goa, .ref lea, .int (iI nv), .int (iI mm), .ref fia, .ref sea, .int (iI (bZ ck)), .ref sta, .ref lda, .ref vla, .int (iI (bZ gd)), .int (iI fl), .ref dia, .ref qua], ceZ G rea 25600 (fz H), ceI G poa 160 Nb] 0 0 := by
  intro d
  induction d with
  | zero =>
    intro i  hd hI
    have hz : i = n := by omega
    subst hz
    refine vv_iload_n F zd_MO_isHeld_2 rfl 2 rfl ?_
    refine vv_aload_n F zd_MO_isHeld_3 rfl 0 rfl ?_
    refine vv_get F zd_MO_isHeld_4 zf_MO 0 rfl rfl 1 (by decide) zw_757 rfl ?_
    refine vv_icmp_ge (tgt := 50) F zd_MO_isHeld_7 rfl (by first | exact ⟨by omega, by omega⟩) (by first | exact ⟨by omega, by omega⟩) (fun _ => ?_) (fun h9 => absurd h9 (by omega))
    exact k  hI
  | succ d ih =>
    intro i  hd hI
    have q0 := hNb i.toNat (by omega)
    refine vv_iload_n F zd_MO_isHeld_2 rfl 2 rfl ?_
    refine vv_aload_n F zd_MO_isHeld_3 rfl 0 rfl ?_
    refine vv_get F zd_MO_isHeld_4 zf_MO 0 rfl rfl 1 (by decide) zw_757 rfl ?_
    refine vv_icmp_ge (tgt := 50) F zd_MO_isHeld_7 rfl (by first | exact ⟨by omega, by omega⟩) (by first | exact ⟨by omega, by omega⟩) (fun h9 => absurd h9 (by omega)) (fun _ => ?_)
    refine vv_aload_n F zd_MO_isHeld_10 rfl 0 rfl ?_
    refine vv_get F zd_MO_isHeld_11 zf_MO 0 rfl rfl 6 (by decide) zw_762 rfl ?_
    refine vv_iload_n F zd_MO_isHeld_14 rfl 2 rfl ?_
    refine vv_iald F zd_MO_isHeld_15 2 rfl ⟨by omega, by omega⟩ (by decide) ?_
    refine vv_iconst F zd_MO_isHeld_16 ?_
    refine vv_icmp_ne (tgt := 44) F zd_MO_isHeld_17 rfl (by first | exact ⟨by omega, by omega⟩) (by decide) (fun h1 => ?_) (fun h1 => ?_)
    · refine vv_iinc (j := 2) (lv' := [(0, .ref mo), (1, .int (iI u)), (2, .int (iI (i + 1)))]) F zd_MO_isHeld_44 rfl (by decide) [1, 2, 0] rfl ?_
      refine vv_goto (tgt := 2) F zd_MO_isHeld_47 rfl ?_
      exact ih (i + 1)  (by omega) (⟨by omega, fun j hj => by
      by_cases z : j = i.toNat
      · subst z
        cases hh : hld H Nb u.toNat i.toNat with
        | false => rfl
        | true => obtain ⟨q1, q2, q3⟩ := hld_iff.mp hh; omega
      · exact hI.2 j (by omega)⟩)
    · refine vv_aload_n F zd_MO_isHeld_20 rfl 0 rfl ?_
      refine vv_iload_n F zd_MO_isHeld_21 rfl 2 rfl ?_
      refine vv_iload_n F zd_MO_isHeld_22 rfl 1 rfl ?_
      refine vv_callV (q0 := 0) (As := [.int (iI i), .int (iI u)]) (rest := []) (wr := [ceI G poa 160 Nb]) F (cn_MO_areOne l G mo th n ac tha gk rea poa mn cha goa lea nv mm fia sea ck sta lda vla gd fl dia qua H i u ⟨by omega, by omega⟩ ⟨by omega, by omega⟩) zm_MO_areOne ⟨zw_872, zs_MO_areOne⟩ zw_870 zd_MO_isHeld_23 ⟨by decide, by decide⟩ ⟨by decide, by decide⟩ [0, 1] [2] rfl rfl ⟨rfl, rfl, by decide⟩ rfl rfl rfl rfl (Nat.le_of_ble_eq_true rfl) (vv_then (ws' := [ceO 7 mo [.int (iI th), .int (iI n), .int (iI ac), .ref tha, .int (iI (bZ gk)), .ref rea, .ref poa, .int (iI mn), .ref cha, .ref goa, .ref lea, .int (iI nv), .int (iI mm), .ref fia, .ref sea, .int (iI (bZ ck)), .ref sta, .ref lda, .ref vla, .int (iI (bZ gd)), .int (iI fl), .ref dia, .ref qua], ceZ G rea 25600 (fz H), ceI G poa 160 Nb]) (st' := [.int (iI (bZ (H i.toNat u.toNat && H u.toNat i.toNat)))]) [1, 2, 0] rfl rfl rfl ?_)
      refine vv_if_ne (tgt := 44) F zd_MO_isHeld_26 rfl (bZ_rg _) (fun h2 => ?_) (fun h2 => ?_)
      · have h2 : (H i.toNat u.toNat && H u.toNat i.toNat) = true := by cases hb9 : (H i.toNat u.toNat && H u.toNat i.toNat) with | true => rfl | false => exact absurd ((bZ_0 _).mpr hb9) h2
        refine vv_iinc (j := 2) (lv' := [(0, .ref mo), (1, .int (iI u)), (2, .int (iI (i + 1)))]) F zd_MO_isHeld_44 rfl (by decide) [1, 2, 0] rfl ?_
        refine vv_goto (tgt := 2) F zd_MO_isHeld_47 rfl ?_
        exact ih (i + 1)  (by omega) (⟨by omega, fun j hj => by
      by_cases z : j = i.toNat
      · subst z
        cases hh : hld H Nb u.toNat i.toNat with
        | false => rfl
        | true => obtain ⟨q1, q2, q3⟩ := hld_iff.mp hh; rw [q2, q3] at h2; cases h2
      · exact hI.2 j (by omega)⟩)
      · have h2 : (H i.toNat u.toNat && H u.toNat i.toNat) = false := (bZ_0 _).mp h2
        refine vv_aload_n F zd_MO_isHeld_29 rfl 0 rfl ?_
        refine vv_get F zd_MO_isHeld_30 zf_MO 0 rfl rfl 5 (by decide) zw_761 rfl ?_
        refine vv_iload_n F zd_MO_isHeld_33 rfl 2 rfl ?_
        refine vv_iload_n F zd_MO_isHeld_34 rfl 1 rfl ?_
        refine vv_callS (As := [.int (iI i), .int (iI u)]) (rest := [.ref rea]) (wr := [ceO 7 mo [.int (iI th), .int (iI n), .int (iI ac), .ref tha, .int (iI (bZ gk)), .ref rea, .ref poa, .int (iI mn), .ref cha, .ref goa, .ref lea, .int (iI nv), .int (iI mm), .ref fia, .ref sea, .int (iI (bZ ck)), .ref sta, .ref lda, .ref vla, .int (iI (bZ gd)), .int (iI fl), .ref dia, .ref qua], ceZ G rea 25600 (fz H), ceI G poa 160 Nb]) F (cn_MO_cell l G i u) zm_MO_cell zw_844 zw_843 zd_MO_isHeld_35 ⟨by decide, by decide⟩ ⟨by decide, by decide⟩ [] [0, 1, 2] rfl rfl ⟨rfl, rfl, by decide⟩ rfl rfl (Nat.le_of_ble_eq_true rfl) (vv_then (ws' := [ceO 7 mo [.int (iI th), .int (iI n), .int (iI ac), .ref tha, .int (iI (bZ gk)), .ref rea, .ref poa, .int (iI mn), .ref cha, .ref goa, .ref lea, .int (iI nv), .int (iI mm), .ref fia, .ref sea, .int (iI (bZ ck)), .ref sta, .ref lda, .ref vla, .int (iI (bZ gd)), .int (iI fl), .ref dia, .ref qua], ceZ G rea 25600 (fz H), ceI G poa 160 Nb]) (st' := [.int (iI (160 * i + u)), .ref rea]) [0, 1, 2] rfl rfl rfl ?_)
        refine vv_zald F zd_MO_isHeld_38 1 rfl ⟨by omega, by omega⟩ (by decide) ?_
        refine vv_ti (congrArg bZ (fzI (B := H) (u := i) (v := u) (by omega) ⟨by omega, by omega⟩)) ?_
        refine vv_if_eq (tgt := 44) F zd_MO_isHeld_39 rfl (bZ_rg _) (fun h3 => ?_) (fun h3 => ?_)
        · have h3 : (H i.toNat u.toNat) = false := (bZ_0 _).mp h3
          refine vv_iinc (j := 2) (lv' := [(0, .ref mo), (1, .int (iI u)), (2, .int (iI (i + 1)))]) F zd_MO_isHeld_44 rfl (by decide) [1, 2, 0] rfl ?_
          refine vv_goto (tgt := 2) F zd_MO_isHeld_47 rfl ?_
          exact ih (i + 1)  (by omega) (⟨by omega, fun j hj => by
      by_cases z : j = i.toNat
      · subst z
        cases hh : hld H Nb u.toNat i.toNat with
        | false => rfl
        | true => obtain ⟨q1, q2, q3⟩ := hld_iff.mp hh; rw [q2] at h3; cases h3
      · exact hI.2 j (by omega)⟩)
        · have h3 : (H i.toNat u.toNat) = true := by cases hb9 : (H i.toNat u.toNat) with | true => rfl | false => exact absurd ((bZ_0 _).mpr hb9) h3
          refine vv_iconst F zd_MO_isHeld_42 ?_
          exact vv_zret (v := true) F zd_MO_isHeld_43 ⟨by
        have hh : hld H Nb u.toNat i.toNat = true := hld_iff.mpr ⟨h1, h3, by rw [h3, Bool.true_and] at h2; exact h2⟩
        have h9 := cN_strict (show i.toNat < n.toNat by omega) hh
        rw [decide_eq_true (by omega)], rfl⟩

set_option maxHeartbeats 4000000 in
set_option maxRecDepth 100000 in
theorem cn_MO_isHeld (l : Launch) (G : vv_G) (mo : Nat) (th : Int) (n : Int) (ac : Int) (tha : Nat) (gk : Bool) (rea : Nat) (poa : Nat) (mn : Int) (cha : Nat) (goa : Nat) (lea : Nat) (nv : Int) (mm : Int) (fia : Nat) (sea : Nat) (ck : Bool) (sta : Nat) (lda : Nat) (vla : Nat) (gd : Bool) (fl : Int) (dia : Nat) (qua : Nat) (H : Nat → Nat → Bool) (Nb : Nat → Int) (u : Int) (hn : 0 ≤ n ∧ n ≤ 160) (hu : 0 ≤ u ∧ u < 160) (hNb : ∀ j, j < n.toNat → -1 ≤ Nb j ∧ Nb j < 160) :
    vv_D l zy_MO_isHeld zc_MO_isHeld 3 (some .boolean) { frames := 2, cells := 0, slots := 0, locals := 43 } G [.ref mo, .int (iI u)] [ceO 7 mo [.int (iI th), .int (iI n), .int (iI ac), .ref tha, .int (iI (bZ gk)), .ref rea, .ref poa, .int (iI mn), .ref cha, .ref goa, .ref lea, .int (iI nv), .int (iI mm), .ref fia, .ref sea, .int (iI (bZ ck)), .ref sta, .ref lda, .ref vla, .int (iI (bZ gd)), .int (iI fl), .ref dia, .ref qua], ceZ G rea 25600 (fz H), ceI G poa 160 Nb] (some (.int (iI (bZ (decide (cN (hld H Nb u.toNat) n.toNat ≠ 0)))))) [ceO 7 mo [.int (iI th), .int (iI n), .int (iI ac), .ref tha, .int (iI (bZ gk)), .ref rea, .ref poa, .int (iI mn), .ref cha, .ref goa, .ref lea, .int (iI nv), .int (iI mm), .ref fia, .ref sea, .int (iI (bZ ck)), .ref sta, .ref lda, .ref vla, .int (iI (bZ gd)), .int (iI fl), .ref dia, .ref qua], ceZ G rea 25600 (fz H), ceI G poa 160 Nb] := by
  refine vv_met (by decide +kernel) (Nat.le_of_ble_eq_true rfl) rfl ?_
  intro p e s m args below meth c A F
  refine vv_iconst F zd_MO_isHeld_0 ?_
  refine vv_istore_n (lv' := [(0, .ref mo), (1, .int (iI u)), (2, .int (iI 0))]) F zd_MO_isHeld_1 rfl (by decide) [1, 2, 0] rfl ?_
  refine lp_MO_ih F mo th n ac tha gk rea poa mn cha goa lea nv mm fia sea ck sta lda vla gd fl dia qua H Nb u hn hu hNb (fun hI => ?_) n.toNat 0 (by omega) ⟨by omega, fun j hj => by omega⟩
  refine vv_iconst F zd_MO_isHeld_50 ?_
  exact vv_zret (v := false) F zd_MO_isHeld_51 ⟨by rw [decide_eq_false (fun q => q (cN_z (fun j hj => hI.2 j (by omega))))], rfl⟩

set_option maxHeartbeats 4000000 in
set_option maxRecDepth 100000 in
theorem lp_MO_se {p : Program} {l : Launch} {e : Env} {s : State} {m : MethodId} {args : Array Value} {below : List Frame} {meth : Method} {c : Code} {A : Nat → Prop} {Q : State → Prop} {G : vv_G} (F : vv_F p s m args meth c zc_MO_numberParts "ClauseGraphModel" "numberParts" none G A 4) (mo : Nat) (th : Int) (n : Int) (ac : Int) (tha : Nat) (gk : Bool) (rea : Nat) (poa : Nat) (mn : Int) (cha : Nat) (goa : Nat) (lea : Nat) (nv : Int) (mm : Int) (fia : Nat) (sea : Nat) (ck : Bool) (sta : Nat) (lda : Nat) (vla : Nat) (gd : Bool) (fl : Int) (dia : Nat) (qua : Nat) (H : Nat → Nat → Bool) (Nb : Nat → Int) (x : Nat) (lf : Int) (hn : 0 ≤ n ∧ n ≤ 160) (hNb : ∀ j, j < n.toNat → -1 ≤ Nb j ∧ Nb j < 160) (hx : x < n.toNat) (hx1 : Nb x = -1) (hx2 : cN (hld H Nb x) n.toNat = 0) (hx3 : ∀ a, a < x → ¬ (Nb a = -1 ∧ cN (hld H Nb a) n.toNat = 0))
    (k : (0 ≤ (x : Int)) → vv_V p l e { frames := 3, cells := 0, slots := 0, locals := 65 } s m args below meth c G A 4 Q 63 [(0, .ref mo), (1, .int (iI lf)), (2, .int (iI (x : Int)))] [] [ceO 7 mo [.int (iI th), .int (iI n), .int (iI ac), .ref tha, .int (iI (bZ gk)), .ref rea, .ref poa, .int (iI mn), .ref cha, .ref goa, .ref lea, .int (iI nv), .int (iI mm), .ref fia, .ref sea, .int (iI (bZ ck)), .ref sta, .ref lda, .ref vla, .int (iI (bZ gd)), .int (iI fl), .ref dia, .ref qua], ceZ G rea 25600 (fz H), ceI G poa 160 Nb] 0 0)  :
    ∀ (d : Nat) (i : Int) , i + (d : Int) = (x : Int) → (0 ≤ i) → vv_V p l e { frames := 3, cells := 0, slots := 0, locals := 65 } s m args below meth c G A 4 Q 39 [(0, .ref mo), (1, .int (iI lf)), (2, .int (iI i))] [] [ceO 7 mo [.int (iI th), .int (iI n), .int (iI ac), .ref tha, .int (iI (bZ gk)), .ref rea, .ref poa, .int (iI mn), .ref cha, .ref goa, .ref lea, .int (iI nv), .int (iI mm), .ref fia, .ref sea, .int (iI (bZ ck)), .ref sta, .ref lda, .ref vla, .int (iI (bZ gd)), .int (iI fl), .ref dia, .ref qua], ceZ G rea 25600 (fz H), ceI G poa 160 Nb] 0 0 := by
  intro d
  induction d with
  | zero =>
    intro i  hd hI
    have hz : i = (x : Int) := by omega
    subst hz
    have q0 := hNb x (by omega)
    refine vv_aload_n F zd_MO_numberParts_39 rfl 0 rfl ?_
    refine vv_get F zd_MO_numberParts_40 zf_MO 0 rfl rfl 6 (by decide) zw_762 rfl ?_
    refine vv_iload_n F zd_MO_numberParts_43 rfl 2 rfl ?_
    refine vv_iald F zd_MO_numberParts_44 2 rfl ⟨by omega, by omega⟩ (by decide) ?_
    show vv_V _ _ _ _ _ _ _ _ _ _ _ _ _ _ _ _ [.int (iI (Nb x))] _ _ _
    refine vv_iconst F zd_MO_numberParts_45 ?_
    refine vv_icmp_ne (tgt := 57) F zd_MO_numberParts_46 rfl (by first | exact ⟨by omega, by omega⟩) (by decide) (fun h9 => absurd h9 (fun q => q hx1)) (fun _ => ?_)
    refine vv_aload_n F zd_MO_numberParts_49 rfl 0 rfl ?_
    refine vv_iload_n F zd_MO_numberParts_50 rfl 2 rfl ?_
    refine vv_callV (q0 := 0) (As := [.int (iI (x : Int))]) (rest := []) (wr := []) F (cn_MO_isHeld l G mo th n ac tha gk rea poa mn cha goa lea nv mm fia sea ck sta lda vla gd fl dia qua H Nb (x : Int) ⟨by omega, by omega⟩ ⟨by omega, by omega⟩ hNb) zm_MO_isHeld ⟨zw_868, zs_MO_isHeld⟩ zw_866 zd_MO_numberParts_51 ⟨by decide, by decide⟩ ⟨by decide, by decide⟩ [0, 1, 2] [] rfl rfl ⟨rfl, rfl, by decide⟩ rfl rfl rfl rfl (Nat.le_of_ble_eq_true rfl) (vv_then (ws' := [ceO 7 mo [.int (iI th), .int (iI n), .int (iI ac), .ref tha, .int (iI (bZ gk)), .ref rea, .ref poa, .int (iI mn), .ref cha, .ref goa, .ref lea, .int (iI nv), .int (iI mm), .ref fia, .ref sea, .int (iI (bZ ck)), .ref sta, .ref lda, .ref vla, .int (iI (bZ gd)), .int (iI fl), .ref dia, .ref qua], ceZ G rea 25600 (fz H), ceI G poa 160 Nb]) (st' := [.int (iI (bZ (decide (cN (hld H Nb x) n.toNat ≠ 0))))]) [0, 1, 2] rfl rfl rfl ?_)
    refine vv_if_eq (tgt := 63) F zd_MO_numberParts_54 rfl (bZ_rg _) (fun _ => ?_) (fun h9 => absurd h9 (fun q => q (by rw [hx2]; rfl)))
    exact k  hI
  | succ d ih =>
    intro i  hd hI
    have q0 := hNb i.toNat (by omega)
    refine vv_aload_n F zd_MO_numberParts_39 rfl 0 rfl ?_
    refine vv_get F zd_MO_numberParts_40 zf_MO 0 rfl rfl 6 (by decide) zw_762 rfl ?_
    refine vv_iload_n F zd_MO_numberParts_43 rfl 2 rfl ?_
    refine vv_iald F zd_MO_numberParts_44 2 rfl ⟨by omega, by omega⟩ (by decide) ?_
    refine vv_iconst F zd_MO_numberParts_45 ?_
    refine vv_icmp_ne (tgt := 57) F zd_MO_numberParts_46 rfl (by first | exact ⟨by omega, by omega⟩) (by decide) (fun h1 => ?_) (fun h1 => ?_)
    · refine vv_iinc (j := 2) (lv' := [(0, .ref mo), (1, .int (iI lf)), (2, .int (iI (i + 1)))]) F zd_MO_numberParts_57 rfl (by decide) [1, 2, 0] rfl ?_
      refine vv_goto (tgt := 39) F zd_MO_numberParts_60 rfl ?_
      exact ih (i + 1)  (by omega) (by omega)
    · refine vv_aload_n F zd_MO_numberParts_49 rfl 0 rfl ?_
      refine vv_iload_n F zd_MO_numberParts_50 rfl 2 rfl ?_
      refine vv_callV (q0 := 0) (As := [.int (iI i)]) (rest := []) (wr := []) F (cn_MO_isHeld l G mo th n ac tha gk rea poa mn cha goa lea nv mm fia sea ck sta lda vla gd fl dia qua H Nb i ⟨by omega, by omega⟩ ⟨by omega, by omega⟩ hNb) zm_MO_isHeld ⟨zw_868, zs_MO_isHeld⟩ zw_866 zd_MO_numberParts_51 ⟨by decide, by decide⟩ ⟨by decide, by decide⟩ [0, 1, 2] [] rfl rfl ⟨rfl, rfl, by decide⟩ rfl rfl rfl rfl (Nat.le_of_ble_eq_true rfl) (vv_then (ws' := [ceO 7 mo [.int (iI th), .int (iI n), .int (iI ac), .ref tha, .int (iI (bZ gk)), .ref rea, .ref poa, .int (iI mn), .ref cha, .ref goa, .ref lea, .int (iI nv), .int (iI mm), .ref fia, .ref sea, .int (iI (bZ ck)), .ref sta, .ref lda, .ref vla, .int (iI (bZ gd)), .int (iI fl), .ref dia, .ref qua], ceZ G rea 25600 (fz H), ceI G poa 160 Nb]) (st' := [.int (iI (bZ (decide (cN (hld H Nb i.toNat) n.toNat ≠ 0))))]) [0, 1, 2] rfl rfl rfl ?_)
      refine vv_if_eq (tgt := 63) F zd_MO_numberParts_54 rfl (bZ_rg _) (fun h9 => absurd h9 (by have h8 := hx3 i.toNat (by omega); have h7 : cN (hld H Nb i.toNat) n.toNat ≠ 0 := fun q => h8 ⟨h1, q⟩; rw [decide_eq_true h7]; decide)) (fun _ => ?_)
      refine vv_iinc (j := 2) (lv' := [(0, .ref mo), (1, .int (iI lf)), (2, .int (iI (i + 1)))]) F zd_MO_numberParts_57 rfl (by decide) [1, 2, 0] rfl ?_
      refine vv_goto (tgt := 39) F zd_MO_numberParts_60 rfl ?_
      exact ih (i + 1)  (by omega) (by omega)

set_option maxHeartbeats 4000000 in
set_option maxRecDepth 100000 in
theorem lp_MO_gi {p : Program} {l : Launch} {e : Env} {s : State} {m : MethodId} {args : Array Value} {below : List Frame} {meth : Method} {c : Code} {A : Nat → Prop} {Q : State → Prop} {G : vv_G} (F : vv_F p s m args meth c zc_MO_numberParts "ClauseGraphModel" "numberParts" none G A 4) (mo : Nat) (th : Int) (n : Int) (ac : Int) (tha : Nat) (gk : Bool) (rea : Nat) (poa : Nat) (mn : Int) (cha : Nat) (goa : Nat) (lea : Nat) (nv : Int) (mm : Int) (fia : Nat) (sea : Nat) (ck : Bool) (sta : Nat) (lda : Nat) (vla : Nat) (gd : Bool) (fl : Int) (dia : Nat) (qua : Nat) (H : Nat → Nat → Bool) (Nb : Nat → Int) (x : Nat) (lf : Int) (hn : 0 ≤ n ∧ n ≤ 160) (hx : x < n.toNat)
    (k : ∀ (N1 : Nat → Int) (l1 : Int), (0 ≤ n ∧ N1 = mkN H x mn Nb n.toNat ∧ l1 = lf - (cN (fun a => H a x && H x a) n.toNat : Int)) → vv_V p l e { frames := 3, cells := 0, slots := 0, locals := 65 } s m args below meth c G A 4 Q 101 [(0, .ref mo), (1, .int (iI l1)), (2, .int (iI (x : Int))), (3, .int (iI n))] [] [ceO 7 mo [.int (iI th), .int (iI n), .int (iI ac), .ref tha, .int (iI (bZ gk)), .ref rea, .ref poa, .int (iI mn), .ref cha, .ref goa, .ref lea, .int (iI nv), .int (iI mm), .ref fia, .ref sea, .int (iI (bZ ck)), .ref sta, .ref lda, .ref vla, .int (iI (bZ gd)), .int (iI fl), .ref dia, .ref qua], ceZ G rea 25600 (fz H), ceI G poa 160 N1] 0 0)  :
    ∀ (d : Nat) (i : Int) (N1 : Nat → Int) (l1 : Int), i + (d : Int) = n → (0 ≤ i ∧ N1 = mkN H x mn Nb i.toNat ∧ l1 = lf - (cN (fun a => H a x && H x a) i.toNat : Int)) → vv_V p l e { frames := 3, cells := 0, slots := 0, locals := 65 } s m args below meth c G A 4 Q 65 [(0, .ref mo), (1, .int (iI l1)), (2, .int (iI (x : Int))), (3, .int (iI i))] [] [ceO 7 mo [.int (iI th), .int (iI n), .int (iI ac), .ref tha, .int (iI (bZ gk)), .ref rea, .ref poa, .int (iI mn), .ref cha, .ref goa, .ref lea, .int (iI nv), .int (iI mm), .ref fia, .ref sea, .int (iI (bZ ck)), .ref sta, .ref lda, .ref vla, .int (iI (bZ gd)), .int (iI fl), .ref dia, .ref qua], ceZ G rea 25600 (fz H), ceI G poa 160 N1] 0 0 := by
  intro d
  induction d with
  | zero =>
    intro i N1 l1 hd hI
    have hz : i = n := by omega
    subst hz
    refine vv_iload_n F zd_MO_numberParts_65 rfl 3 rfl ?_
    refine vv_aload_n F zd_MO_numberParts_66 rfl 0 rfl ?_
    refine vv_get F zd_MO_numberParts_67 zf_MO 0 rfl rfl 1 (by decide) zw_757 rfl ?_
    refine vv_icmp_ge (tgt := 101) F zd_MO_numberParts_70 rfl (by first | exact ⟨by omega, by omega⟩) (by first | exact ⟨by omega, by omega⟩) (fun _ => ?_) (fun h9 => absurd h9 (by omega))
    exact k N1 l1 hI
  | succ d ih =>
    intro i N1 l1 hd hI
    refine vv_iload_n F zd_MO_numberParts_65 rfl 3 rfl ?_
    refine vv_aload_n F zd_MO_numberParts_66 rfl 0 rfl ?_
    refine vv_get F zd_MO_numberParts_67 zf_MO 0 rfl rfl 1 (by decide) zw_757 rfl ?_
    refine vv_icmp_ge (tgt := 101) F zd_MO_numberParts_70 rfl (by first | exact ⟨by omega, by omega⟩) (by first | exact ⟨by omega, by omega⟩) (fun h9 => absurd h9 (by omega)) (fun _ => ?_)
    refine vv_aload_n F zd_MO_numberParts_73 rfl 0 rfl ?_
    refine vv_iload_n F zd_MO_numberParts_74 rfl 3 rfl ?_
    refine vv_iload_n F zd_MO_numberParts_75 rfl 2 rfl ?_
    refine vv_callV (q0 := 0) (As := [.int (iI i), .int (iI (x : Int))]) (rest := []) (wr := [ceI G poa 160 N1]) F (cn_MO_areOne l G mo th n ac tha gk rea poa mn cha goa lea nv mm fia sea ck sta lda vla gd fl dia qua H i (x : Int) ⟨by omega, by omega⟩ ⟨by omega, by omega⟩) zm_MO_areOne ⟨zw_872, zs_MO_areOne⟩ zw_870 zd_MO_numberParts_76 ⟨by decide, by decide⟩ ⟨by decide, by decide⟩ [0, 1] [2] rfl rfl ⟨rfl, rfl, by decide⟩ rfl rfl rfl rfl (Nat.le_of_ble_eq_true rfl) (vv_then (ws' := [ceO 7 mo [.int (iI th), .int (iI n), .int (iI ac), .ref tha, .int (iI (bZ gk)), .ref rea, .ref poa, .int (iI mn), .ref cha, .ref goa, .ref lea, .int (iI nv), .int (iI mm), .ref fia, .ref sea, .int (iI (bZ ck)), .ref sta, .ref lda, .ref vla, .int (iI (bZ gd)), .int (iI fl), .ref dia, .ref qua], ceZ G rea 25600 (fz H), ceI G poa 160 N1]) (st' := [.int (iI (bZ (H i.toNat x && H x i.toNat)))]) [1, 2, 0] rfl rfl rfl ?_)
    refine vv_if_eq (tgt := 95) F zd_MO_numberParts_79 rfl (bZ_rg _) (fun h1 => ?_) (fun h1 => ?_)
    · have h1 : (H i.toNat x && H x i.toNat) = false := (bZ_0 _).mp h1
      refine vv_iinc (j := 3) (lv' := [(0, .ref mo), (1, .int (iI l1)), (2, .int (iI (x : Int))), (3, .int (iI (i + 1)))]) F zd_MO_numberParts_95 rfl (by decide) [1, 2, 3, 0] rfl ?_
      refine vv_goto (tgt := 65) F zd_MO_numberParts_98 rfl ?_
      exact ih (i + 1) N1 l1 (by omega) (⟨by omega, by rw [show (i + 1).toNat = i.toNat + 1 by omega, mkN_no h1]; exact hI.2.1, by
      rw [show (i + 1).toNat = i.toNat + 1 by omega, cN_f (g := (fun a => H a x && H x a)) h1]; exact hI.2.2⟩)
    · have h1 : (H i.toNat x && H x i.toNat) = true := by cases hb9 : (H i.toNat x && H x i.toNat) with | true => rfl | false => exact absurd ((bZ_0 _).mpr hb9) h1
      refine vv_aload_n F zd_MO_numberParts_82 rfl 0 rfl ?_
      refine vv_get F zd_MO_numberParts_83 zf_MO 0 rfl rfl 6 (by decide) zw_762 rfl ?_
      refine vv_iload_n F zd_MO_numberParts_86 rfl 3 rfl ?_
      refine vv_aload_n F zd_MO_numberParts_87 rfl 0 rfl ?_
      refine vv_get F zd_MO_numberParts_88 zf_MO 0 rfl rfl 7 (by decide) zw_763 rfl ?_
      refine vv_iast (x := mn) (ws' := [ceO 7 mo [.int (iI th), .int (iI n), .int (iI ac), .ref tha, .int (iI (bZ gk)), .ref rea, .ref poa, .int (iI mn), .ref cha, .ref goa, .ref lea, .int (iI nv), .int (iI mm), .ref fia, .ref sea, .int (iI (bZ ck)), .ref sta, .ref lda, .ref vla, .int (iI (bZ gd)), .int (iI fl), .ref dia, .ref qua], ceZ G rea 25600 (fz H), ceI G poa 160 (va_up N1 i.toNat mn)]) F zd_MO_numberParts_91 2 rfl ⟨by omega, by omega⟩ (by decide) rfl ?_
      refine vv_iinc (j := 1) (lv' := [(0, .ref mo), (1, .int (iI (l1 + (-1)))), (2, .int (iI (x : Int))), (3, .int (iI i))]) F zd_MO_numberParts_92 rfl (by decide) [1, 0, 2, 3] rfl ?_
      refine vv_iinc (j := 3) (lv' := [(0, .ref mo), (1, .int (iI (l1 + (-1)))), (2, .int (iI (x : Int))), (3, .int (iI (i + 1)))]) F zd_MO_numberParts_95 rfl (by decide) [1, 2, 3, 0] rfl ?_
      refine vv_goto (tgt := 65) F zd_MO_numberParts_98 rfl ?_
      exact ih (i + 1) (va_up N1 i.toNat mn) (l1 + (-1)) (by omega) (⟨by omega, by rw [hI.2.1, mkN_yes h1, show (i + 1).toNat = i.toNat + 1 by omega], by
      rw [show (i + 1).toNat = i.toNat + 1 by omega, cN_t (g := (fun a => H a x && H x a)) h1, hI.2.2]; omega⟩)

set_option maxHeartbeats 4000000 in
set_option maxRecDepth 100000 in
theorem lp_MO_np {p : Program} {l : Launch} {e : Env} {s : State} {m : MethodId} {args : Array Value} {below : List Frame} {meth : Method} {c : Code} {A : Nat → Prop} {Q : State → Prop} {G : vv_G} (F : vv_F p s m args meth c zc_MO_numberParts "ClauseGraphModel" "numberParts" none G A 4) (mo : Nat) (th : Int) (n : Int) (ac : Int) (tha : Nat) (gk : Bool) (rea : Nat) (poa : Nat) (cha : Nat) (goa : Nat) (lea : Nat) (nv : Int) (mm : Int) (fia : Nat) (sea : Nat) (ck : Bool) (sta : Nat) (lda : Nat) (vla : Nat) (gd : Bool) (fl : Int) (dia : Nat) (qua : Nat) (H : Nat → Nat → Bool) (B : Nat → Nat → Bool) (K : Nat → Nat → Bool) (hn : 0 ≤ n ∧ n ≤ 160) (hc : cl B n.toNat (rsN n.toNat H) K)
    (k : ∀ (mn : Int) (Nb gl : Nat → Int), numC n.toNat (rsN n.toNat H) Nb gl mn → vv_V p l e { frames := 3, cells := 0, slots := 0, locals := 65 } s m args below meth c G A 4 Q 114 [(0, .ref mo)] [] [ceO 7 mo [.int (iI th), .int (iI n), .int (iI ac), .ref tha, .int (iI (bZ gk)), .ref rea, .ref poa, .int (iI mn), .ref cha, .ref goa, .ref lea, .int (iI nv), .int (iI mm), .ref fia, .ref sea, .int (iI (bZ ck)), .ref sta, .ref lda, .ref vla, .int (iI (bZ gd)), .int (iI fl), .ref dia, .ref qua], ceZ G rea 25600 (fz H), ceI G poa 160 Nb] 0 0) :
    ∀ (d : Nat) (lf mn : Int) (Nb gl : Nat → Int), lf ≤ (d : Int) → (0 ≤ mn ∧ lf = (cN (fun a => decide (Nb a = -1)) n.toNat : Int) ∧ mn + lf ≤ n ∧ numP n.toNat (rsN n.toNat H) Nb gl mn) → vv_V p l e { frames := 3, cells := 0, slots := 0, locals := 65 } s m args below meth c G A 4 Q 33 [(0, .ref mo), (1, .int (iI lf))] [] [ceO 7 mo [.int (iI th), .int (iI n), .int (iI ac), .ref tha, .int (iI (bZ gk)), .ref rea, .ref poa, .int (iI mn), .ref cha, .ref goa, .ref lea, .int (iI nv), .int (iI mm), .ref fia, .ref sea, .int (iI (bZ ck)), .ref sta, .ref lda, .ref vla, .int (iI (bZ gd)), .int (iI fl), .ref dia, .ref qua], ceZ G rea 25600 (fz H), ceI G poa 160 Nb] 0 0 := by
  intro d
  induction d with
  | zero =>
    intro lf mn Nb gl hd hI
    refine vv_iload_n F zd_MO_numberParts_33 rfl 1 rfl ?_
    refine vv_if_le (tgt := 114) F zd_MO_numberParts_34 rfl (by first | exact ⟨by omega, by omega⟩) (fun _ => ?_) (fun h9 => absurd h9 (by omega))
    refine vv_locals (lv' := [(0, .ref mo)]) [0] rfl ?_
    exact k mn Nb gl (un_none hI.2.2.2 (by omega))
  | succ d ih =>
    intro lf mn Nb gl hd hI
    refine vv_iload_n F zd_MO_numberParts_33 rfl 1 rfl ?_
    refine vv_if_le (tgt := 114) F zd_MO_numberParts_34 rfl (by first | exact ⟨by omega, by omega⟩) (fun h1 => ?_) (fun h1 => ?_)
    · refine vv_locals (lv' := [(0, .ref mo)]) [0] rfl ?_
      exact k mn Nb gl (un_none hI.2.2.2 (by omega))
    · obtain ⟨x9, hx, hx1, hx2, hx3⟩ := least_rdy hc (num := Nb) (by omega)
      have hNb : ∀ j, j < n.toNat → -1 ≤ Nb j ∧ Nb j < 160 := fun j hj => by have := hI.2.2.2.2.1 j hj; omega
      refine vv_iconst F zd_MO_numberParts_37 ?_
      refine vv_istore_n (lv' := [(0, .ref mo), (1, .int (iI lf)), (2, .int (iI 0))]) F zd_MO_numberParts_38 rfl (by decide) [1, 2, 0] rfl ?_
      refine lp_MO_se F mo th n ac tha gk rea poa mn cha goa lea nv mm fia sea ck sta lda vla gd fl dia qua H Nb x9 lf hn hNb hx hx1 hx2 hx3 (fun hJ => ?_) x9 0 (by omega) (by omega)
      refine vv_iconst F zd_MO_numberParts_63 ?_
      refine vv_istore_n (lv' := [(0, .ref mo), (1, .int (iI lf)), (2, .int (iI (x9 : Int))), (3, .int (iI 0))]) F zd_MO_numberParts_64 rfl (by decide) [1, 2, 3, 0] rfl ?_
      refine lp_MO_gi F mo th n ac tha gk rea poa mn cha goa lea nv mm fia sea ck sta lda vla gd fl dia qua H Nb x9 lf hn hx (fun N9 l9 hG => ?_) n.toNat 0 Nb lf (by omega) ⟨by omega, mkN_0.symm, by simp [cN]⟩
      obtain ⟨-, rfl, rfl⟩ := hG
      have htu := mturn hc hI.2.2.2 hx hx1 hx2 hx3
      refine vv_aload_n F zd_MO_numberParts_101 rfl 0 rfl ?_
      refine vv_dup F zd_MO_numberParts_102 rfl ?_
      refine vv_get F zd_MO_numberParts_103 zf_MO 0 rfl rfl 7 (by decide) zw_763 rfl ?_
      refine vv_iconst F zd_MO_numberParts_106 ?_
      refine vv_iadd F zd_MO_numberParts_107 ?_
      refine vv_put (v := .int (iI (mn + 1))) (ws' := [ceO 7 mo [.int (iI th), .int (iI n), .int (iI ac), .ref tha, .int (iI (bZ gk)), .ref rea, .ref poa, .int (iI (mn + 1)), .ref cha, .ref goa, .ref lea, .int (iI nv), .int (iI mm), .ref fia, .ref sea, .int (iI (bZ ck)), .ref sta, .ref lda, .ref vla, .int (iI (bZ gd)), .int (iI fl), .ref dia, .ref qua], ceZ G rea 25600 (fz H), ceI G poa 160 (mkN H x9 mn Nb n.toNat)]) F zd_MO_numberParts_108 zf_MO zt_MO_ok zn_MO 0 rfl rfl 7 (by decide) zw_763 rfl rfl rfl (Nat.le_of_ble_eq_true rfl) rfl ?_
      refine vv_goto (tgt := 33) F zd_MO_numberParts_111 rfl ?_
      refine vv_locals (lv' := [(0, .ref mo), (1, .int (iI (lf - (cN (fun a => H a x9 && H x9 a) n.toNat : Int))))]) [0, 1] rfl ?_
      exact ih (lf - (cN (fun a => H a x9 && H x9 a) n.toNat : Int)) (mn + 1) (mkN H x9 mn Nb n.toNat) (va_up gl mn.toNat (x9 : Int)) (by omega) ⟨by omega, by omega, by omega, htu.1⟩

set_option maxHeartbeats 4000000 in
set_option maxRecDepth 100000 in
theorem lp_MO_n0 {p : Program} {l : Launch} {e : Env} {s : State} {m : MethodId} {args : Array Value} {below : List Frame} {meth : Method} {c : Code} {A : Nat → Prop} {Q : State → Prop} {G : vv_G} (F : vv_F p s m args meth c zc_MO_numberParts "ClauseGraphModel" "numberParts" none G A 4) (mo : Nat) (th : Int) (n : Int) (ac : Int) (tha : Nat) (gk : Bool) (rea : Nat) (poa : Nat) (mn : Int) (cha : Nat) (goa : Nat) (lea : Nat) (nv : Int) (mm : Int) (fia : Nat) (sea : Nat) (ck : Bool) (sta : Nat) (lda : Nat) (vla : Nat) (gd : Bool) (fl : Int) (dia : Nat) (qua : Nat) (H : Nat → Nat → Bool) (hn : 0 ≤ n ∧ n ≤ 160)
    (k : ∀ (Nb : Nat → Int), (0 ≤ n ∧ ∀ j : Nat, (j : Int) < n → Nb j = -1) → vv_V p l e { frames := 3, cells := 0, slots := 0, locals := 65 } s m args below meth c G A 4 Q 28 [(0, .ref mo), (1, .int (iI n))] [] [ceO 7 mo [.int (iI th), .int (iI n), .int (iI ac), .ref tha, .int (iI (bZ gk)), .ref rea, .ref poa, .int (iI mn), .ref cha, .ref goa, .ref lea, .int (iI nv), .int (iI mm), .ref fia, .ref sea, .int (iI (bZ ck)), .ref sta, .ref lda, .ref vla, .int (iI (bZ gd)), .int (iI fl), .ref dia, .ref qua], ceZ G rea 25600 (fz H), ceI G poa 160 Nb] 0 0)  :
    ∀ (d : Nat) (i : Int) (Nb : Nat → Int), i + (d : Int) = n → (0 ≤ i ∧ ∀ j : Nat, (j : Int) < i → Nb j = -1) → vv_V p l e { frames := 3, cells := 0, slots := 0, locals := 65 } s m args below meth c G A 4 Q 7 [(0, .ref mo), (1, .int (iI i))] [] [ceO 7 mo [.int (iI th), .int (iI n), .int (iI ac), .ref tha, .int (iI (bZ gk)), .ref rea, .ref poa, .int (iI mn), .ref cha, .ref goa, .ref lea, .int (iI nv), .int (iI mm), .ref fia, .ref sea, .int (iI (bZ ck)), .ref sta, .ref lda, .ref vla, .int (iI (bZ gd)), .int (iI fl), .ref dia, .ref qua], ceZ G rea 25600 (fz H), ceI G poa 160 Nb] 0 0 := by
  intro d
  induction d with
  | zero =>
    intro i Nb hd hI
    have hz : i = n := by omega
    subst hz
    refine vv_iload_n F zd_MO_numberParts_7 rfl 1 rfl ?_
    refine vv_aload_n F zd_MO_numberParts_8 rfl 0 rfl ?_
    refine vv_get F zd_MO_numberParts_9 zf_MO 0 rfl rfl 1 (by decide) zw_757 rfl ?_
    refine vv_icmp_ge (tgt := 28) F zd_MO_numberParts_12 rfl (by first | exact ⟨by omega, by omega⟩) (by first | exact ⟨by omega, by omega⟩) (fun _ => ?_) (fun h9 => absurd h9 (by omega))
    exact k Nb hI
  | succ d ih =>
    intro i Nb hd hI
    refine vv_iload_n F zd_MO_numberParts_7 rfl 1 rfl ?_
    refine vv_aload_n F zd_MO_numberParts_8 rfl 0 rfl ?_
    refine vv_get F zd_MO_numberParts_9 zf_MO 0 rfl rfl 1 (by decide) zw_757 rfl ?_
    refine vv_icmp_ge (tgt := 28) F zd_MO_numberParts_12 rfl (by first | exact ⟨by omega, by omega⟩) (by first | exact ⟨by omega, by omega⟩) (fun h9 => absurd h9 (by omega)) (fun _ => ?_)
    refine vv_aload_n F zd_MO_numberParts_15 rfl 0 rfl ?_
    refine vv_get F zd_MO_numberParts_16 zf_MO 0 rfl rfl 6 (by decide) zw_762 rfl ?_
    refine vv_iload_n F zd_MO_numberParts_19 rfl 1 rfl ?_
    refine vv_iconst F zd_MO_numberParts_20 ?_
    refine vv_iast (x := (-1)) (ws' := [ceO 7 mo [.int (iI th), .int (iI n), .int (iI ac), .ref tha, .int (iI (bZ gk)), .ref rea, .ref poa, .int (iI mn), .ref cha, .ref goa, .ref lea, .int (iI nv), .int (iI mm), .ref fia, .ref sea, .int (iI (bZ ck)), .ref sta, .ref lda, .ref vla, .int (iI (bZ gd)), .int (iI fl), .ref dia, .ref qua], ceZ G rea 25600 (fz H), ceI G poa 160 (va_up Nb i.toNat (-1))]) F zd_MO_numberParts_21 2 rfl ⟨by omega, by omega⟩ (by decide) rfl ?_
    refine vv_iinc (j := 1) (lv' := [(0, .ref mo), (1, .int (iI (i + 1)))]) F zd_MO_numberParts_22 rfl (by decide) [1, 0] rfl ?_
    refine vv_goto (tgt := 7) F zd_MO_numberParts_25 rfl ?_
    exact ih (i + 1) (va_up Nb i.toNat (-1)) (by omega) (⟨by omega, fun j hj => by
      by_cases z : j = i.toNat
      · rw [z, va_up_self]
      · rw [va_up_ne _ _ z]; exact hI.2 j (by omega)⟩)

set_option maxHeartbeats 4000000 in
set_option maxRecDepth 100000 in
theorem cn_MO_numberParts (l : Launch) (G : vv_G) (mo : Nat) (th : Int) (n : Int) (ac : Int) (tha : Nat) (gk : Bool) (rea : Nat) (poa : Nat) (mn : Int) (cha : Nat) (goa : Nat) (lea : Nat) (nv : Int) (mm : Int) (fia : Nat) (sea : Nat) (ck : Bool) (sta : Nat) (lda : Nat) (vla : Nat) (gd : Bool) (fl : Int) (dia : Nat) (qua : Nat) (H : Nat → Nat → Bool) (Nb : Nat → Int) (B : Nat → Nat → Bool) (K : Nat → Nat → Bool) (hn : 0 ≤ n ∧ n ≤ 160) (hc : cl B n.toNat (rsN n.toNat H) K) :
    vv_C l zy_MO_numberParts zc_MO_numberParts 4 none { frames := 3, cells := 0, slots := 0, locals := 65 } G [.ref mo] [ceO 7 mo [.int (iI th), .int (iI n), .int (iI ac), .ref tha, .int (iI (bZ gk)), .ref rea, .ref poa, .int (iI mn), .ref cha, .ref goa, .ref lea, .int (iI nv), .int (iI mm), .ref fia, .ref sea, .int (iI (bZ ck)), .ref sta, .ref lda, .ref vla, .int (iI (bZ gd)), .int (iI fl), .ref dia, .ref qua], ceZ G rea 25600 (fz H), ceI G poa 160 Nb] (fun v7 w7 => ∃ (Nb2 : Nat → Int) (mn2 : Int) (gl : Nat → Int), (numC n.toNat (rsN n.toNat H) Nb2 gl mn2) ∧ v7 = none ∧ w7 = [ceO 7 mo [.int (iI th), .int (iI n), .int (iI ac), .ref tha, .int (iI (bZ gk)), .ref rea, .ref poa, .int (iI mn2), .ref cha, .ref goa, .ref lea, .int (iI nv), .int (iI mm), .ref fia, .ref sea, .int (iI (bZ ck)), .ref sta, .ref lda, .ref vla, .int (iI (bZ gd)), .int (iI fl), .ref dia, .ref qua], ceZ G rea 25600 (fz H), ceI G poa 160 Nb2]) := by
  refine vv_met (by decide +kernel) (Nat.le_of_ble_eq_true rfl) rfl ?_
  intro p e s m args below meth c A F
  refine vv_aload_n F zd_MO_numberParts_0 rfl 0 rfl ?_
  refine vv_iconst F zd_MO_numberParts_1 ?_
  refine vv_put (v := .int (iI 0)) (ws' := [ceO 7 mo [.int (iI th), .int (iI n), .int (iI ac), .ref tha, .int (iI (bZ gk)), .ref rea, .ref poa, .int (iI 0), .ref cha, .ref goa, .ref lea, .int (iI nv), .int (iI mm), .ref fia, .ref sea, .int (iI (bZ ck)), .ref sta, .ref lda, .ref vla, .int (iI (bZ gd)), .int (iI fl), .ref dia, .ref qua], ceZ G rea 25600 (fz H), ceI G poa 160 Nb]) F zd_MO_numberParts_2 zf_MO zt_MO_ok zn_MO 0 rfl rfl 7 (by decide) zw_763 rfl rfl rfl (Nat.le_of_ble_eq_true rfl) rfl ?_
  refine vv_iconst F zd_MO_numberParts_5 ?_
  refine vv_istore_n (lv' := [(0, .ref mo), (1, .int (iI 0))]) F zd_MO_numberParts_6 rfl (by decide) [1, 0] rfl ?_
  refine lp_MO_n0 F mo th n ac tha gk rea poa 0 cha goa lea nv mm fia sea ck sta lda vla gd fl dia qua H hn (fun Nb9 hI => ?_) n.toNat 0 Nb (by omega) ⟨by omega, fun j hj => by omega⟩
  refine vv_aload_n F zd_MO_numberParts_28 rfl 0 rfl ?_
  refine vv_get F zd_MO_numberParts_29 zf_MO 0 rfl rfl 1 (by decide) zw_757 rfl ?_
  refine vv_istore_n (lv' := [(0, .ref mo), (1, .int (iI n))]) F zd_MO_numberParts_32 rfl (by decide) [1, 0] rfl ?_
  have hun : cN (fun a => decide (Nb9 a = -1)) n.toNat = n.toNat := by
    have h9 := cN_congr (f := fun a => decide (Nb9 a = -1)) (g := fun _ => true) n.toNat (fun j hj => decide_eq_true (hI.2 j (by omega)))
    have h8 : ∀ q, cN (fun _ => true) q = q := fun q => by induction q with | zero => rfl | succ q ih => rw [cN_t rfl, ih]
    rw [h9, h8]
  refine lp_MO_np F mo th n ac tha gk rea poa cha goa lea nv mm fia sea ck sta lda vla gd fl dia qua H B K hn hc (fun mn9 Nb8 gl9 hC => ?_) n.toNat n 0 Nb9 (fun _ => 0) (by omega) ⟨by omega, by omega, by omega, numP_0 (fun a ha => hI.2 a (by omega))⟩
  exact vv_vret F zd_MO_numberParts_114 ⟨Nb8, mn9, gl9, hC, rfl, rfl⟩
