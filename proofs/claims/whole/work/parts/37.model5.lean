set_option maxHeartbeats 4000000 in
set_option maxRecDepth 100000 in
theorem lp_MO_ao1 {p : Program} {l : Launch} {e : Env} {s : State} {m : MethodId} {args : Array Value} {below : List Frame} {meth : Method} {c : Code} {A : Nat → Prop} {Q : State → Prop} {G : vv_G} (F : vv_F p s m args meth c zc_MO_arcsOf "ClauseGraphModel" "arcsOf" (some .int) G A 6) (mo : Nat) (th : Int) (n : Int) (ac : Int) (tha : Nat) (gk : Bool) (rea : Nat) (poa : Nat) (mn : Int) (cha : Nat) (goa : Nat) (lea : Nat) (nv : Int) (mm : Int) (fia : Nat) (sea : Nat) (ck : Bool) (sta : Nat) (lda : Nat) (vla : Nat) (gd : Bool) (fl : Int) (dia : Nat) (qua : Nat) (B : Nat → Nat → Bool) (Nb : Nat → Int) (u : Int) (ins : Bool) (i : Int) (z0 : Int) (hn : 1 ≤ n ∧ n ≤ 160) (hu : 0 ≤ u ∧ u < 160) (hNb : ∀ j, j < n.toNat → 0 ≤ Nb j ∧ Nb j < 160) (hi : 0 ≤ i ∧ i < n) (hz : Nb i.toNat = u)
    (k : ∀ (z : Int), (0 ≤ n ∧ z = z0 + (cN (fun b => B i.toNat b && (decide (Nb b = u) == ins)) n.toNat : Int)) → vv_V p l e { frames := 1, cells := 0, slots := 0, locals := 21 } s m args below meth c G A 6 Q 86 [(0, .ref mo), (1, .int (iI u)), (2, .int (iI (bZ ins))), (3, .int (iI z)), (4, .int (iI i)), (5, .int (iI n))] [] [ceO 7 mo [.int (iI th), .int (iI n), .int (iI ac), .ref tha, .int (iI (bZ gk)), .ref rea, .ref poa, .int (iI mn), .ref cha, .ref goa, .ref lea, .int (iI nv), .int (iI mm), .ref fia, .ref sea, .int (iI (bZ ck)), .ref sta, .ref lda, .ref vla, .int (iI (bZ gd)), .int (iI fl), .ref dia, .ref qua], ceZ G tha 25600 (fz B), ceI G poa 160 Nb] 0 0)  :
    ∀ (d : Nat) (j : Int) (z : Int), j + (d : Int) = n → (0 ≤ j ∧ z = z0 + (cN (fun b => B i.toNat b && (decide (Nb b = u) == ins)) j.toNat : Int)) → vv_V p l e { frames := 1, cells := 0, slots := 0, locals := 21 } s m args below meth c G A 6 Q 17 [(0, .ref mo), (1, .int (iI u)), (2, .int (iI (bZ ins))), (3, .int (iI z)), (4, .int (iI i)), (5, .int (iI j))] [] [ceO 7 mo [.int (iI th), .int (iI n), .int (iI ac), .ref tha, .int (iI (bZ gk)), .ref rea, .ref poa, .int (iI mn), .ref cha, .ref goa, .ref lea, .int (iI nv), .int (iI mm), .ref fia, .ref sea, .int (iI (bZ ck)), .ref sta, .ref lda, .ref vla, .int (iI (bZ gd)), .int (iI fl), .ref dia, .ref qua], ceZ G tha 25600 (fz B), ceI G poa 160 Nb] 0 0 := by
  intro d
  induction d with
  | zero =>
    intro j z hd hI
    have hz : j = n := by omega
    subst hz
    refine vv_iload F zd_MO_arcsOf_17 5 rfl ?_
    refine vv_aload_n F zd_MO_arcsOf_19 rfl 0 rfl ?_
    refine vv_get F zd_MO_arcsOf_20 zf_MO 0 rfl rfl 1 (by decide) zw_757 rfl ?_
    refine vv_icmp_ge (tgt := 86) F zd_MO_arcsOf_23 rfl (by first | exact ⟨by omega, by omega⟩) (by first | exact ⟨by omega, by omega⟩) (fun _ => ?_) (fun h9 => absurd h9 (by omega))
    exact k z hI
  | succ d ih =>
    intro j z hd hI
    have q0 := hNb i.toNat (by omega)
    have q1 := hNb j.toNat (by omega)
    refine vv_iload F zd_MO_arcsOf_17 5 rfl ?_
    refine vv_aload_n F zd_MO_arcsOf_19 rfl 0 rfl ?_
    refine vv_get F zd_MO_arcsOf_20 zf_MO 0 rfl rfl 1 (by decide) zw_757 rfl ?_
    refine vv_icmp_ge (tgt := 86) F zd_MO_arcsOf_23 rfl (by first | exact ⟨by omega, by omega⟩) (by first | exact ⟨by omega, by omega⟩) (fun h9 => absurd h9 (by omega)) (fun _ => ?_)
    refine vv_aload_n F zd_MO_arcsOf_26 rfl 0 rfl ?_
    refine vv_get F zd_MO_arcsOf_27 zf_MO 0 rfl rfl 6 (by decide) zw_762 rfl ?_
    refine vv_iload F zd_MO_arcsOf_30 4 rfl ?_
    refine vv_iald F zd_MO_arcsOf_32 2 rfl ⟨by omega, by omega⟩ (by decide) ?_
    refine vv_iload_n F zd_MO_arcsOf_33 rfl 1 rfl ?_
    refine vv_icmp_ne (tgt := 86) F zd_MO_arcsOf_34 rfl (by first | exact ⟨by omega, by omega⟩) (by first | exact ⟨by omega, by omega⟩) (fun h9 => absurd h9 (by omega)) (fun _ => ?_)
    refine vv_aload_n F zd_MO_arcsOf_37 rfl 0 rfl ?_
    refine vv_get F zd_MO_arcsOf_38 zf_MO 0 rfl rfl 3 (by decide) zw_759 rfl ?_
    refine vv_iload F zd_MO_arcsOf_41 4 rfl ?_
    refine vv_iload F zd_MO_arcsOf_43 5 rfl ?_
    refine vv_callS (As := [.int (iI i), .int (iI j)]) (rest := [.ref tha]) (wr := [ceO 7 mo [.int (iI th), .int (iI n), .int (iI ac), .ref tha, .int (iI (bZ gk)), .ref rea, .ref poa, .int (iI mn), .ref cha, .ref goa, .ref lea, .int (iI nv), .int (iI mm), .ref fia, .ref sea, .int (iI (bZ ck)), .ref sta, .ref lda, .ref vla, .int (iI (bZ gd)), .int (iI fl), .ref dia, .ref qua], ceZ G tha 25600 (fz B), ceI G poa 160 Nb]) F (cn_MO_cell l G i j) zm_MO_cell zw_844 zw_843 zd_MO_arcsOf_45 ⟨by decide, by decide⟩ ⟨by decide, by decide⟩ [] [0, 1, 2] rfl rfl ⟨rfl, rfl, by decide⟩ rfl rfl (Nat.le_of_ble_eq_true rfl) (vv_then (ws' := [ceO 7 mo [.int (iI th), .int (iI n), .int (iI ac), .ref tha, .int (iI (bZ gk)), .ref rea, .ref poa, .int (iI mn), .ref cha, .ref goa, .ref lea, .int (iI nv), .int (iI mm), .ref fia, .ref sea, .int (iI (bZ ck)), .ref sta, .ref lda, .ref vla, .int (iI (bZ gd)), .int (iI fl), .ref dia, .ref qua], ceZ G tha 25600 (fz B), ceI G poa 160 Nb]) (st' := [.int (iI (160 * i + j)), .ref tha]) [0, 1, 2] rfl rfl rfl ?_)
    refine vv_zald F zd_MO_arcsOf_48 1 rfl ⟨by omega, by omega⟩ (by decide) ?_
    refine vv_ti (congrArg bZ (fzI (B := B) (u := i) (v := j) (by omega) ⟨by omega, by omega⟩)) ?_
    refine vv_if_eq (tgt := 78) F zd_MO_arcsOf_49 rfl (bZ_rg _) (fun h1 => ?_) (fun h1 => ?_)
    · have h1 : (B i.toNat j.toNat) = false := (bZ_0 _).mp h1
      refine vv_iload_n F zd_MO_arcsOf_78 rfl 3 rfl ?_
      refine vv_istore_n (lv' := [(0, .ref mo), (1, .int (iI u)), (2, .int (iI (bZ ins))), (3, .int (iI z)), (4, .int (iI i)), (5, .int (iI j))]) F zd_MO_arcsOf_79 rfl (by decide) [1, 2, 3, 0, 4, 5] rfl ?_
      refine vv_iinc (j := 5) (lv' := [(0, .ref mo), (1, .int (iI u)), (2, .int (iI (bZ ins))), (3, .int (iI z)), (4, .int (iI i)), (5, .int (iI (j + 1)))]) F zd_MO_arcsOf_80 rfl (by decide) [1, 2, 3, 4, 5, 0] rfl ?_
      refine vv_goto (tgt := 17) F zd_MO_arcsOf_83 rfl ?_
      exact ih (j + 1) z (by omega) (⟨by omega, by rw [show (j + 1).toNat = j.toNat + 1 by omega, cN_f (g := (fun b => B i.toNat b && (decide (Nb b = u) == ins))) (by show (B i.toNat j.toNat && (decide (Nb j.toNat = u) == ins)) = false; rw [h1]; rfl)]; omega⟩)
    · have h1 : (B i.toNat j.toNat) = true := by cases hb9 : (B i.toNat j.toNat) with | true => rfl | false => exact absurd ((bZ_0 _).mpr hb9) h1
      refine vv_aload_n F zd_MO_arcsOf_52 rfl 0 rfl ?_
      refine vv_get F zd_MO_arcsOf_53 zf_MO 0 rfl rfl 6 (by decide) zw_762 rfl ?_
      refine vv_iload F zd_MO_arcsOf_56 5 rfl ?_
      refine vv_iald F zd_MO_arcsOf_58 2 rfl ⟨by omega, by omega⟩ (by decide) ?_
      refine vv_iload_n F zd_MO_arcsOf_59 rfl 1 rfl ?_
      refine vv_icmp_ne (tgt := 67) F zd_MO_arcsOf_60 rfl (by first | exact ⟨by omega, by omega⟩) (by first | exact ⟨by omega, by omega⟩) (fun h2 => ?_) (fun h2 => ?_)
      · refine vv_iconst F zd_MO_arcsOf_67 ?_
        refine vv_iload_n F zd_MO_arcsOf_68 rfl 2 rfl ?_
        refine vv_icmp_ne (tgt := 78) F zd_MO_arcsOf_69 rfl (by decide) (bZ_rg _) (fun h3 => ?_) (fun h3 => ?_)
        · refine vv_iload_n F zd_MO_arcsOf_78 rfl 3 rfl ?_
          refine vv_istore_n (lv' := [(0, .ref mo), (1, .int (iI u)), (2, .int (iI (bZ ins))), (3, .int (iI z)), (4, .int (iI i)), (5, .int (iI j))]) F zd_MO_arcsOf_79 rfl (by decide) [1, 2, 3, 0, 4, 5] rfl ?_
          refine vv_iinc (j := 5) (lv' := [(0, .ref mo), (1, .int (iI u)), (2, .int (iI (bZ ins))), (3, .int (iI z)), (4, .int (iI i)), (5, .int (iI (j + 1)))]) F zd_MO_arcsOf_80 rfl (by decide) [1, 2, 3, 4, 5, 0] rfl ?_
          refine vv_goto (tgt := 17) F zd_MO_arcsOf_83 rfl ?_
          exact ih (j + 1) z (by omega) (⟨by omega, by rw [show (j + 1).toNat = j.toNat + 1 by omega, cN_f (g := (fun b => B i.toNat b && (decide (Nb b = u) == ins))) (by show (B i.toNat j.toNat && (decide (Nb j.toNat = u) == ins)) = false; rw [h1, decide_eq_false h2]; cases ins <;> first | rfl | exact absurd h3 (by decide))]; omega⟩)
        · refine vv_iload_n F zd_MO_arcsOf_72 rfl 3 rfl ?_
          refine vv_iconst F zd_MO_arcsOf_73 ?_
          refine vv_iadd F zd_MO_arcsOf_74 ?_
          refine vv_goto (tgt := 79) F zd_MO_arcsOf_75 rfl ?_
          refine vv_istore_n (lv' := [(0, .ref mo), (1, .int (iI u)), (2, .int (iI (bZ ins))), (3, .int (iI (z + 1))), (4, .int (iI i)), (5, .int (iI j))]) F zd_MO_arcsOf_79 rfl (by decide) [1, 2, 3, 0, 4, 5] rfl ?_
          refine vv_iinc (j := 5) (lv' := [(0, .ref mo), (1, .int (iI u)), (2, .int (iI (bZ ins))), (3, .int (iI (z + 1))), (4, .int (iI i)), (5, .int (iI (j + 1)))]) F zd_MO_arcsOf_80 rfl (by decide) [1, 2, 3, 4, 5, 0] rfl ?_
          refine vv_goto (tgt := 17) F zd_MO_arcsOf_83 rfl ?_
          exact ih (j + 1) (z + 1) (by omega) (⟨by omega, by rw [show (j + 1).toNat = j.toNat + 1 by omega, cN_t (g := (fun b => B i.toNat b && (decide (Nb b = u) == ins))) (by show (B i.toNat j.toNat && (decide (Nb j.toNat = u) == ins)) = true; rw [h1, decide_eq_false h2]; cases ins <;> first | rfl | exact absurd h3 (by decide))]; omega⟩)
      · refine vv_iconst F zd_MO_arcsOf_63 ?_
        refine vv_goto (tgt := 68) F zd_MO_arcsOf_64 rfl ?_
        refine vv_iload_n F zd_MO_arcsOf_68 rfl 2 rfl ?_
        refine vv_icmp_ne (tgt := 78) F zd_MO_arcsOf_69 rfl (by decide) (bZ_rg _) (fun h4 => ?_) (fun h4 => ?_)
        · refine vv_iload_n F zd_MO_arcsOf_78 rfl 3 rfl ?_
          refine vv_istore_n (lv' := [(0, .ref mo), (1, .int (iI u)), (2, .int (iI (bZ ins))), (3, .int (iI z)), (4, .int (iI i)), (5, .int (iI j))]) F zd_MO_arcsOf_79 rfl (by decide) [1, 2, 3, 0, 4, 5] rfl ?_
          refine vv_iinc (j := 5) (lv' := [(0, .ref mo), (1, .int (iI u)), (2, .int (iI (bZ ins))), (3, .int (iI z)), (4, .int (iI i)), (5, .int (iI (j + 1)))]) F zd_MO_arcsOf_80 rfl (by decide) [1, 2, 3, 4, 5, 0] rfl ?_
          refine vv_goto (tgt := 17) F zd_MO_arcsOf_83 rfl ?_
          exact ih (j + 1) z (by omega) (⟨by omega, by rw [show (j + 1).toNat = j.toNat + 1 by omega, cN_f (g := (fun b => B i.toNat b && (decide (Nb b = u) == ins))) (by show (B i.toNat j.toNat && (decide (Nb j.toNat = u) == ins)) = false; rw [h1, decide_eq_true h2]; cases ins <;> first | rfl | exact absurd h4 (by decide))]; omega⟩)
        · refine vv_iload_n F zd_MO_arcsOf_72 rfl 3 rfl ?_
          refine vv_iconst F zd_MO_arcsOf_73 ?_
          refine vv_iadd F zd_MO_arcsOf_74 ?_
          refine vv_goto (tgt := 79) F zd_MO_arcsOf_75 rfl ?_
          refine vv_istore_n (lv' := [(0, .ref mo), (1, .int (iI u)), (2, .int (iI (bZ ins))), (3, .int (iI (z + 1))), (4, .int (iI i)), (5, .int (iI j))]) F zd_MO_arcsOf_79 rfl (by decide) [1, 2, 3, 0, 4, 5] rfl ?_
          refine vv_iinc (j := 5) (lv' := [(0, .ref mo), (1, .int (iI u)), (2, .int (iI (bZ ins))), (3, .int (iI (z + 1))), (4, .int (iI i)), (5, .int (iI (j + 1)))]) F zd_MO_arcsOf_80 rfl (by decide) [1, 2, 3, 4, 5, 0] rfl ?_
          refine vv_goto (tgt := 17) F zd_MO_arcsOf_83 rfl ?_
          exact ih (j + 1) (z + 1) (by omega) (⟨by omega, by rw [show (j + 1).toNat = j.toNat + 1 by omega, cN_t (g := (fun b => B i.toNat b && (decide (Nb b = u) == ins))) (by show (B i.toNat j.toNat && (decide (Nb j.toNat = u) == ins)) = true; rw [h1, decide_eq_true h2]; cases ins <;> first | rfl | exact absurd h4 (by decide))]; omega⟩)

set_option maxHeartbeats 4000000 in
set_option maxRecDepth 100000 in
theorem lp_MO_ao {p : Program} {l : Launch} {e : Env} {s : State} {m : MethodId} {args : Array Value} {below : List Frame} {meth : Method} {c : Code} {A : Nat → Prop} {Q : State → Prop} {G : vv_G} (F : vv_F p s m args meth c zc_MO_arcsOf "ClauseGraphModel" "arcsOf" (some .int) G A 6) (mo : Nat) (th : Int) (n : Int) (ac : Int) (tha : Nat) (gk : Bool) (rea : Nat) (poa : Nat) (mn : Int) (cha : Nat) (goa : Nat) (lea : Nat) (nv : Int) (mm : Int) (fia : Nat) (sea : Nat) (ck : Bool) (sta : Nat) (lda : Nat) (vla : Nat) (gd : Bool) (fl : Int) (dia : Nat) (qua : Nat) (B : Nat → Nat → Bool) (Nb : Nat → Int) (u : Int) (ins : Bool) (hn : 1 ≤ n ∧ n ≤ 160) (hu : 0 ≤ u ∧ u < 160) (hNb : ∀ j, j < n.toNat → 0 ≤ Nb j ∧ Nb j < 160)
    (k : ∀ (z : Int), (0 ≤ n ∧ z = (sumN (fun a => if Nb a = u then cN (fun b => B a b && (decide (Nb b = u) == ins)) n.toNat else 0) n.toNat : Int)) → vv_V p l e { frames := 1, cells := 0, slots := 0, locals := 21 } s m args below meth c G A 6 Q 92 [(0, .ref mo), (1, .int (iI u)), (2, .int (iI (bZ ins))), (3, .int (iI z)), (4, .int (iI n))] [] [ceO 7 mo [.int (iI th), .int (iI n), .int (iI ac), .ref tha, .int (iI (bZ gk)), .ref rea, .ref poa, .int (iI mn), .ref cha, .ref goa, .ref lea, .int (iI nv), .int (iI mm), .ref fia, .ref sea, .int (iI (bZ ck)), .ref sta, .ref lda, .ref vla, .int (iI (bZ gd)), .int (iI fl), .ref dia, .ref qua], ceZ G tha 25600 (fz B), ceI G poa 160 Nb] 0 0)  :
    ∀ (d : Nat) (i : Int) (z : Int), i + (d : Int) = n → (0 ≤ i ∧ z = (sumN (fun a => if Nb a = u then cN (fun b => B a b && (decide (Nb b = u) == ins)) n.toNat else 0) i.toNat : Int)) → vv_V p l e { frames := 1, cells := 0, slots := 0, locals := 21 } s m args below meth c G A 6 Q 5 [(0, .ref mo), (1, .int (iI u)), (2, .int (iI (bZ ins))), (3, .int (iI z)), (4, .int (iI i))] [] [ceO 7 mo [.int (iI th), .int (iI n), .int (iI ac), .ref tha, .int (iI (bZ gk)), .ref rea, .ref poa, .int (iI mn), .ref cha, .ref goa, .ref lea, .int (iI nv), .int (iI mm), .ref fia, .ref sea, .int (iI (bZ ck)), .ref sta, .ref lda, .ref vla, .int (iI (bZ gd)), .int (iI fl), .ref dia, .ref qua], ceZ G tha 25600 (fz B), ceI G poa 160 Nb] 0 0 := by
  intro d
  induction d with
  | zero =>
    intro i z hd hI
    have hz : i = n := by omega
    subst hz
    refine vv_iload F zd_MO_arcsOf_5 4 rfl ?_
    refine vv_aload_n F zd_MO_arcsOf_7 rfl 0 rfl ?_
    refine vv_get F zd_MO_arcsOf_8 zf_MO 0 rfl rfl 1 (by decide) zw_757 rfl ?_
    refine vv_icmp_ge (tgt := 92) F zd_MO_arcsOf_11 rfl (by first | exact ⟨by omega, by omega⟩) (by first | exact ⟨by omega, by omega⟩) (fun _ => ?_) (fun h9 => absurd h9 (by omega))
    exact k z hI
  | succ d ih =>
    intro i z hd hI
    have q0 := hNb i.toNat (by omega)
    have hsN : sumN (fun a => if Nb a = u then cN (fun b => B a b && (decide (Nb b = u) == ins)) n.toNat else 0) (i + 1).toNat = sumN (fun a => if Nb a = u then cN (fun b => B a b && (decide (Nb b = u) == ins)) n.toNat else 0) i.toNat + (if Nb i.toNat = u then cN (fun b => B i.toNat b && (decide (Nb b = u) == ins)) n.toNat else 0) := by rw [show (i + 1).toNat = i.toNat + 1 by omega]; rfl
    refine vv_iload F zd_MO_arcsOf_5 4 rfl ?_
    refine vv_aload_n F zd_MO_arcsOf_7 rfl 0 rfl ?_
    refine vv_get F zd_MO_arcsOf_8 zf_MO 0 rfl rfl 1 (by decide) zw_757 rfl ?_
    refine vv_icmp_ge (tgt := 92) F zd_MO_arcsOf_11 rfl (by first | exact ⟨by omega, by omega⟩) (by first | exact ⟨by omega, by omega⟩) (fun h9 => absurd h9 (by omega)) (fun _ => ?_)
    refine vv_iconst F zd_MO_arcsOf_14 ?_
    refine vv_istore (lv' := [(0, .ref mo), (1, .int (iI u)), (2, .int (iI (bZ ins))), (3, .int (iI z)), (4, .int (iI i)), (5, .int (iI 0))]) F zd_MO_arcsOf_15 (by decide) [1, 2, 3, 4, 5, 0] rfl ?_
    by_cases hz : Nb i.toNat = u
    · refine lp_MO_ao1 F mo th n ac tha gk rea poa mn cha goa lea nv mm fia sea ck sta lda vla gd fl dia qua B Nb u ins i z hn hu hNb ⟨by omega, by omega⟩ hz (fun z9 hJ => ?_) n.toNat 0 z (by omega) ⟨by omega, by simp [cN]⟩
      refine vv_iinc (j := 4) (lv' := [(0, .ref mo), (1, .int (iI u)), (2, .int (iI (bZ ins))), (3, .int (iI z9)), (4, .int (iI (i + 1))), (5, .int (iI n))]) F zd_MO_arcsOf_86 rfl (by decide) [1, 2, 3, 4, 0, 5] rfl ?_
      refine vv_goto (tgt := 5) F zd_MO_arcsOf_89 rfl ?_
      refine vv_locals (lv' := [(0, .ref mo), (1, .int (iI u)), (2, .int (iI (bZ ins))), (3, .int (iI z9)), (4, .int (iI (i + 1)))]) [0, 1, 2, 3, 4] rfl ?_
      exact ih (i + 1) z9 (by omega) (⟨by omega, by rw [hsN, if_pos hz]; have h8 := hJ.2; omega⟩)
    · refine vv_iload F zd_MO_arcsOf_17 5 rfl ?_
      refine vv_aload_n F zd_MO_arcsOf_19 rfl 0 rfl ?_
      refine vv_get F zd_MO_arcsOf_20 zf_MO 0 rfl rfl 1 (by decide) zw_757 rfl ?_
      refine vv_icmp_ge (tgt := 86) F zd_MO_arcsOf_23 rfl (by decide) (by first | exact ⟨by omega, by omega⟩) (fun h9 => absurd h9 (by omega)) (fun _ => ?_)
      refine vv_aload_n F zd_MO_arcsOf_26 rfl 0 rfl ?_
      refine vv_get F zd_MO_arcsOf_27 zf_MO 0 rfl rfl 6 (by decide) zw_762 rfl ?_
      refine vv_iload F zd_MO_arcsOf_30 4 rfl ?_
      refine vv_iald F zd_MO_arcsOf_32 2 rfl ⟨by omega, by omega⟩ (by decide) ?_
      refine vv_iload_n F zd_MO_arcsOf_33 rfl 1 rfl ?_
      refine vv_icmp_ne (tgt := 86) F zd_MO_arcsOf_34 rfl (by first | exact ⟨by omega, by omega⟩) (by first | exact ⟨by omega, by omega⟩) (fun _ => ?_) (fun h9 => absurd h9 (by omega))
      refine vv_iinc (j := 4) (lv' := [(0, .ref mo), (1, .int (iI u)), (2, .int (iI (bZ ins))), (3, .int (iI z)), (4, .int (iI (i + 1))), (5, .int (iI 0))]) F zd_MO_arcsOf_86 rfl (by decide) [1, 2, 3, 4, 0, 5] rfl ?_
      refine vv_goto (tgt := 5) F zd_MO_arcsOf_89 rfl ?_
      refine vv_locals (lv' := [(0, .ref mo), (1, .int (iI u)), (2, .int (iI (bZ ins))), (3, .int (iI z)), (4, .int (iI (i + 1)))]) [0, 1, 2, 3, 4] rfl ?_
      exact ih (i + 1) z (by omega) (⟨by omega, by rw [hsN, if_neg hz]; omega⟩)

set_option maxHeartbeats 4000000 in
set_option maxRecDepth 100000 in
theorem cn_MO_arcsOf (l : Launch) (G : vv_G) (mo : Nat) (th : Int) (n : Int) (ac : Int) (tha : Nat) (gk : Bool) (rea : Nat) (poa : Nat) (mn : Int) (cha : Nat) (goa : Nat) (lea : Nat) (nv : Int) (mm : Int) (fia : Nat) (sea : Nat) (ck : Bool) (sta : Nat) (lda : Nat) (vla : Nat) (gd : Bool) (fl : Int) (dia : Nat) (qua : Nat) (B : Nat → Nat → Bool) (Nb : Nat → Int) (u : Int) (ins : Bool) (hn : 1 ≤ n ∧ n ≤ 160) (hu : 0 ≤ u ∧ u < 160) (hNb : ∀ j, j < n.toNat → 0 ≤ Nb j ∧ Nb j < 160) :
    vv_D l zy_MO_arcsOf zc_MO_arcsOf 6 (some .int) { frames := 1, cells := 0, slots := 0, locals := 21 } G [.ref mo, .int (iI u), .int (iI (bZ ins))] [ceO 7 mo [.int (iI th), .int (iI n), .int (iI ac), .ref tha, .int (iI (bZ gk)), .ref rea, .ref poa, .int (iI mn), .ref cha, .ref goa, .ref lea, .int (iI nv), .int (iI mm), .ref fia, .ref sea, .int (iI (bZ ck)), .ref sta, .ref lda, .ref vla, .int (iI (bZ gd)), .int (iI fl), .ref dia, .ref qua], ceZ G tha 25600 (fz B), ceI G poa 160 Nb] (some (.int (iI (aArcs B n.toNat Nb u ins : Int)))) [ceO 7 mo [.int (iI th), .int (iI n), .int (iI ac), .ref tha, .int (iI (bZ gk)), .ref rea, .ref poa, .int (iI mn), .ref cha, .ref goa, .ref lea, .int (iI nv), .int (iI mm), .ref fia, .ref sea, .int (iI (bZ ck)), .ref sta, .ref lda, .ref vla, .int (iI (bZ gd)), .int (iI fl), .ref dia, .ref qua], ceZ G tha 25600 (fz B), ceI G poa 160 Nb] := by
  refine vv_met (by decide +kernel) (Nat.le_of_ble_eq_true rfl) rfl ?_
  intro p e s m args below meth c A F
  refine vv_iconst F zd_MO_arcsOf_0 ?_
  refine vv_istore_n (lv' := [(0, .ref mo), (1, .int (iI u)), (2, .int (iI (bZ ins))), (3, .int (iI 0))]) F zd_MO_arcsOf_1 rfl (by decide) [1, 2, 3, 0] rfl ?_
  refine vv_iconst F zd_MO_arcsOf_2 ?_
  refine vv_istore (lv' := [(0, .ref mo), (1, .int (iI u)), (2, .int (iI (bZ ins))), (3, .int (iI 0)), (4, .int (iI 0))]) F zd_MO_arcsOf_3 (by decide) [1, 2, 3, 4, 0] rfl ?_
  refine lp_MO_ao F mo th n ac tha gk rea poa mn cha goa lea nv mm fia sea ck sta lda vla gd fl dia qua B Nb u ins hn hu hNb (fun z9 hI => ?_) n.toNat 0 0 (by omega) ⟨by omega, rfl⟩
  obtain rfl := hI.2
  refine vv_iload_n F zd_MO_arcsOf_92 rfl 3 rfl ?_
  exact vv_iret F zd_MO_arcsOf_93 ⟨rfl, rfl⟩

/-- a part between two: it leads from u and has a walk to d -/
def malq (D H : Nat → Nat → Bool) (Ls : Nat → Int) (u d e : Nat) : Bool := !(decide (e = d)) && (D u e && H (Ls e).toNat (Ls d).toNat)
def malb (D H : Nat → Nat → Bool) (Ls : Nat → Int) (u : Nat) (onl : Bool) (d j : Nat) : Bool := D u d && (!onl || decide (cN (malq D H Ls u d) j = 0))
def mal (D H : Nat → Nat → Bool) (Ls : Nat → Int) (mn u : Nat) (onl : Bool) (d : Nat) : Bool := malb D H Ls u onl d mn
theorem malb_0 {D H : Nat → Nat → Bool} {Ls : Nat → Int} {u : Nat} {onl : Bool} {d : Nat} : malb D H Ls u onl d 0 = D u d := by simp [malb, cN]
theorem malb_f {D H : Nat → Nat → Bool} {Ls : Nat → Int} {u : Nat} {onl : Bool} {d j q : Nat} (h : malb D H Ls u onl d j = false) (hj : j ≤ q) : malb D H Ls u onl d q = false := by
  unfold malb at *
  have hm := cN_mono (malq D H Ls u d) hj
  cases hD : D u d with
  | false => rfl
  | true =>
    rw [hD] at h
    cases onl with
    | false => simp at h
    | true =>
      simp at h
      simp
      omega
theorem malb_n {D H : Nat → Nat → Bool} {Ls : Nat → Int} {u : Nat} {onl : Bool} {d j q : Nat} (h : onl = false) : malb D H Ls u onl d j = malb D H Ls u onl d q := by
  subst h; simp [malb]
theorem malb_s {D H : Nat → Nat → Bool} {Ls : Nat → Int} {u : Nat} {onl : Bool} {d j : Nat} (h : malb D H Ls u onl d j = true) (ho : onl = true) : malb D H Ls u onl d (j + 1) = !(malq D H Ls u d j) := by
  subst ho
  unfold malb at *
  simp at h
  rw [h.1, cN_s, h.2]
  cases malq D H Ls u d j <;> rfl
theorem malq_e {D H : Nat → Nat → Bool} {Ls : Nat → Int} {u d e : Nat} (h : e = d) : malq D H Ls u d e = false := by simp [malq, h]
theorem malq_d {D H : Nat → Nat → Bool} {Ls : Nat → Int} {u d e : Nat} (h : D u e = false) : malq D H Ls u d e = false := by simp [malq, h]
theorem malq_h {D H : Nat → Nat → Bool} {Ls : Nat → Int} {u d e : Nat} (h : H (Ls e).toNat (Ls d).toNat = false) : malq D H Ls u d e = false := by simp [malq, h]
theorem malq_t {D H : Nat → Nat → Bool} {Ls : Nat → Int} {u d e : Nat} (h1 : ¬ e = d) (h2 : D u e = true) (h3 : H (Ls e).toNat (Ls d).toNat = true) : malq D H Ls u d e = true := by simp [malq, h1, h2, h3]
/-- no part leads to i -/
def mbg (D : Nat → Nat → Bool) (i j : Nat) : Bool := decide (cN (fun d => D d i) j = 0)
theorem mbg_s {D : Nat → Nat → Bool} {i j : Nat} : mbg D i (j + 1) = (mbg D i j && !(D j i)) := by
  unfold mbg
  rw [cN_s]
  cases D j i <;> simp

set_option maxHeartbeats 4000000 in
set_option maxRecDepth 100000 in
theorem lp_MO_al1 {p : Program} {l : Launch} {e : Env} {s : State} {m : MethodId} {args : Array Value} {below : List Frame} {meth : Method} {c : Code} {A : Nat → Prop} {Q : State → Prop} {G : vv_G} (F : vv_F p s m args meth c zc_MO_alone "ClauseGraphModel" "alone" (some .int) G A 7) (mo : Nat) (th : Int) (n : Int) (ac : Int) (tha : Nat) (gk : Bool) (rea : Nat) (poa : Nat) (mn : Int) (cha : Nat) (goa : Nat) (lea : Nat) (nv : Int) (mm : Int) (fia : Nat) (sea : Nat) (ck : Bool) (sta : Nat) (lda : Nat) (vla : Nat) (gd : Bool) (fl : Int) (dia : Nat) (qua : Nat) (D : Nat → Nat → Bool) (H : Nat → Nat → Bool) (Ls : Nat → Int) (u : Int) (onl : Bool) (i z : Int) (hm : 0 ≤ mn ∧ mn ≤ 160) (hu : 0 ≤ u ∧ u < 160) (hLs : ∀ c : Nat, (c : Int) < mn → 0 ≤ Ls c ∧ Ls c < 160) (hi : 0 ≤ i ∧ i < mn)
    (k : ∀ (b : Bool), b = malb D H Ls u.toNat onl i.toNat mn.toNat → vv_V p l e { frames := 2, cells := 0, slots := 0, locals := 43 } s m args below meth c G A 7 Q 99 [(0, .ref mo), (1, .int (iI u)), (2, .int (iI (bZ onl))), (3, .int (iI z)), (4, .int (iI i)), (5, .int (iI (bZ b)))] [] [ceO 7 mo [.int (iI th), .int (iI n), .int (iI ac), .ref tha, .int (iI (bZ gk)), .ref rea, .ref poa, .int (iI mn), .ref cha, .ref goa, .ref lea, .int (iI nv), .int (iI mm), .ref fia, .ref sea, .int (iI (bZ ck)), .ref sta, .ref lda, .ref vla, .int (iI (bZ gd)), .int (iI fl), .ref dia, .ref qua], ceZ G goa 25600 (fz D), ceZ G rea 25600 (fz H), ceI G lea 160 Ls] 0 0) :
    ∀ (d : Nat) (j : Int) (b : Bool), j + (d : Int) = mn → (0 ≤ j ∧ b = malb D H Ls u.toNat onl i.toNat j.toNat) → vv_V p l e { frames := 2, cells := 0, slots := 0, locals := 43 } s m args below meth c G A 7 Q 26 [(0, .ref mo), (1, .int (iI u)), (2, .int (iI (bZ onl))), (3, .int (iI z)), (4, .int (iI i)), (5, .int (iI (bZ b))), (6, .int (iI j))] [] [ceO 7 mo [.int (iI th), .int (iI n), .int (iI ac), .ref tha, .int (iI (bZ gk)), .ref rea, .ref poa, .int (iI mn), .ref cha, .ref goa, .ref lea, .int (iI nv), .int (iI mm), .ref fia, .ref sea, .int (iI (bZ ck)), .ref sta, .ref lda, .ref vla, .int (iI (bZ gd)), .int (iI fl), .ref dia, .ref qua], ceZ G goa 25600 (fz D), ceZ G rea 25600 (fz H), ceI G lea 160 Ls] 0 0 := by
  intro d
  induction d with
  | zero =>
    intro j b hd hI
    refine vv_iload F zd_MO_alone_26 6 rfl ?_
    refine vv_aload_n F zd_MO_alone_28 rfl 0 rfl ?_
    refine vv_get F zd_MO_alone_29 zf_MO 0 rfl rfl 7 (by decide) zw_763 rfl ?_
    refine vv_icmp_ge (tgt := 99) F zd_MO_alone_32 rfl (by first | exact ⟨by omega, by omega⟩) (by first | exact ⟨by omega, by omega⟩) (fun _ => ?_) (fun h9 => absurd h9 (by omega))
    refine vv_locals (lv' := [(0, .ref mo), (1, .int (iI u)), (2, .int (iI (bZ onl))), (3, .int (iI z)), (4, .int (iI i)), (5, .int (iI (bZ b)))]) [0, 1, 2, 3, 4, 5] rfl ?_
    exact k b (by rw [hI.2, show j = mn by omega])
  | succ d ih =>
    intro j b hd hI
    have q0 := hLs i.toNat (by omega)
    have q1 := hLs j.toNat (by omega)
    refine vv_iload F zd_MO_alone_26 6 rfl ?_
    refine vv_aload_n F zd_MO_alone_28 rfl 0 rfl ?_
    refine vv_get F zd_MO_alone_29 zf_MO 0 rfl rfl 7 (by decide) zw_763 rfl ?_
    refine vv_icmp_ge (tgt := 99) F zd_MO_alone_32 rfl (by first | exact ⟨by omega, by omega⟩) (by first | exact ⟨by omega, by omega⟩) (fun h9 => absurd h9 (by omega)) (fun _ => ?_)
    refine vv_iload F zd_MO_alone_35 5 rfl ?_
    refine vv_if_eq (tgt := 99) F zd_MO_alone_37 rfl (bZ_rg _) (fun h1 => ?_) (fun h1 => ?_)
    · have h1 : b = false := (bZ_0 _).mp h1
      refine vv_locals (lv' := [(0, .ref mo), (1, .int (iI u)), (2, .int (iI (bZ onl))), (3, .int (iI z)), (4, .int (iI i)), (5, .int (iI (bZ b)))]) [0, 1, 2, 3, 4, 5] rfl ?_
      exact k b (by rw [h1]; exact (malb_f (by rw [← hI.2]; exact h1) (by omega)).symm)
    · have h1 : b = true := by cases hb9 : b with | true => rfl | false => exact absurd ((bZ_0 _).mpr hb9) h1
      refine vv_iload_n F zd_MO_alone_40 rfl 2 rfl ?_
      refine vv_if_eq (tgt := 99) F zd_MO_alone_41 rfl (bZ_rg _) (fun h2 => ?_) (fun h2 => ?_)
      · have h2 : onl = false := (bZ_0 _).mp h2
        refine vv_locals (lv' := [(0, .ref mo), (1, .int (iI u)), (2, .int (iI (bZ onl))), (3, .int (iI z)), (4, .int (iI i)), (5, .int (iI (bZ b)))]) [0, 1, 2, 3, 4, 5] rfl ?_
        exact k b (by rw [hI.2]; exact malb_n h2)
      · have h2 : onl = true := by cases hb9 : onl with | true => rfl | false => exact absurd ((bZ_0 _).mpr hb9) h2
        refine vv_iload F zd_MO_alone_44 6 rfl ?_
        refine vv_iload F zd_MO_alone_46 4 rfl ?_
        refine vv_icmp_eq (tgt := 86) F zd_MO_alone_48 rfl (by first | exact ⟨by omega, by omega⟩) (by first | exact ⟨by omega, by omega⟩) (fun h3 => ?_) (fun h3 => ?_)
        · refine vv_iconst F zd_MO_alone_86 ?_
          refine vv_goto (tgt := 91) F zd_MO_alone_87 rfl ?_
          refine vv_ti (show (1 : Int) = bZ true from rfl) ?_
          refine vv_istore (lv' := [(0, .ref mo), (1, .int (iI u)), (2, .int (iI (bZ onl))), (3, .int (iI z)), (4, .int (iI i)), (5, .int (iI (bZ true))), (6, .int (iI j))]) F zd_MO_alone_91 (by decide) [1, 2, 3, 4, 5, 0, 6] rfl ?_
          refine vv_iinc (j := 6) (lv' := [(0, .ref mo), (1, .int (iI u)), (2, .int (iI (bZ onl))), (3, .int (iI z)), (4, .int (iI i)), (5, .int (iI (bZ true))), (6, .int (iI (j + 1)))]) F zd_MO_alone_93 rfl (by decide) [1, 2, 3, 4, 5, 6, 0] rfl ?_
          refine vv_goto (tgt := 26) F zd_MO_alone_96 rfl ?_
          exact ih (j + 1) true (by omega) ⟨by omega, by rw [show (j + 1).toNat = j.toNat + 1 by omega, malb_s (by rw [← hI.2]; exact h1) h2, malq_e (by omega)]; rfl⟩
        · refine vv_aload_n F zd_MO_alone_51 rfl 0 rfl ?_
          refine vv_iload_n F zd_MO_alone_52 rfl 1 rfl ?_
          refine vv_iload F zd_MO_alone_53 6 rfl ?_
          refine vv_callV (q0 := 0) (As := [.int (iI u), .int (iI j)]) (rest := []) (wr := [ceZ G rea 25600 (fz H), ceI G lea 160 Ls]) F (cn_MO_goesTo l G mo th n ac tha gk rea poa mn cha goa lea nv mm fia sea ck sta lda vla gd fl dia qua D u j ⟨by omega, by omega⟩ ⟨by omega, by omega⟩) zm_MO_goesTo ⟨zw_880, zs_MO_goesTo⟩ zw_878 zd_MO_alone_55 ⟨by decide, by decide⟩ ⟨by decide, by decide⟩ [0, 1] [2, 3] rfl rfl ⟨rfl, rfl, by decide⟩ rfl rfl rfl rfl (Nat.le_of_ble_eq_true rfl) (vv_then (ws' := [ceO 7 mo [.int (iI th), .int (iI n), .int (iI ac), .ref tha, .int (iI (bZ gk)), .ref rea, .ref poa, .int (iI mn), .ref cha, .ref goa, .ref lea, .int (iI nv), .int (iI mm), .ref fia, .ref sea, .int (iI (bZ ck)), .ref sta, .ref lda, .ref vla, .int (iI (bZ gd)), .int (iI fl), .ref dia, .ref qua], ceZ G goa 25600 (fz D), ceZ G rea 25600 (fz H), ceI G lea 160 Ls]) (st' := [.int (iI (bZ (D u.toNat j.toNat)))]) [2, 3, 0, 1] rfl rfl rfl ?_)
          refine vv_if_eq (tgt := 86) F zd_MO_alone_58 rfl (bZ_rg _) (fun h4 => ?_) (fun h4 => ?_)
          · have h4 : (D u.toNat j.toNat) = false := (bZ_0 _).mp h4
            refine vv_iconst F zd_MO_alone_86 ?_
            refine vv_goto (tgt := 91) F zd_MO_alone_87 rfl ?_
            refine vv_ti (show (1 : Int) = bZ true from rfl) ?_
            refine vv_istore (lv' := [(0, .ref mo), (1, .int (iI u)), (2, .int (iI (bZ onl))), (3, .int (iI z)), (4, .int (iI i)), (5, .int (iI (bZ true))), (6, .int (iI j))]) F zd_MO_alone_91 (by decide) [1, 2, 3, 4, 5, 0, 6] rfl ?_
            refine vv_iinc (j := 6) (lv' := [(0, .ref mo), (1, .int (iI u)), (2, .int (iI (bZ onl))), (3, .int (iI z)), (4, .int (iI i)), (5, .int (iI (bZ true))), (6, .int (iI (j + 1)))]) F zd_MO_alone_93 rfl (by decide) [1, 2, 3, 4, 5, 6, 0] rfl ?_
            refine vv_goto (tgt := 26) F zd_MO_alone_96 rfl ?_
            exact ih (j + 1) true (by omega) ⟨by omega, by rw [show (j + 1).toNat = j.toNat + 1 by omega, malb_s (by rw [← hI.2]; exact h1) h2, malq_d h4]; rfl⟩
          · have h4 : (D u.toNat j.toNat) = true := by cases hb9 : (D u.toNat j.toNat) with | true => rfl | false => exact absurd ((bZ_0 _).mpr hb9) h4
            refine vv_aload_n F zd_MO_alone_61 rfl 0 rfl ?_
            refine vv_get F zd_MO_alone_62 zf_MO 0 rfl rfl 5 (by decide) zw_761 rfl ?_
            refine vv_aload_n F zd_MO_alone_65 rfl 0 rfl ?_
            refine vv_get F zd_MO_alone_66 zf_MO 0 rfl rfl 10 (by decide) zw_766 rfl ?_
            refine vv_iload F zd_MO_alone_69 6 rfl ?_
            refine vv_iald F zd_MO_alone_71 3 rfl ⟨by omega, by omega⟩ (by decide) ?_
            refine vv_aload_n F zd_MO_alone_72 rfl 0 rfl ?_
            refine vv_get F zd_MO_alone_73 zf_MO 0 rfl rfl 10 (by decide) zw_766 rfl ?_
            refine vv_iload F zd_MO_alone_76 4 rfl ?_
            refine vv_iald F zd_MO_alone_78 3 rfl ⟨by omega, by omega⟩ (by decide) ?_
            refine vv_callS (As := [.int (iI (Ls j.toNat)), .int (iI (Ls i.toNat))]) (rest := [.ref rea]) (wr := [ceO 7 mo [.int (iI th), .int (iI n), .int (iI ac), .ref tha, .int (iI (bZ gk)), .ref rea, .ref poa, .int (iI mn), .ref cha, .ref goa, .ref lea, .int (iI nv), .int (iI mm), .ref fia, .ref sea, .int (iI (bZ ck)), .ref sta, .ref lda, .ref vla, .int (iI (bZ gd)), .int (iI fl), .ref dia, .ref qua], ceZ G goa 25600 (fz D), ceZ G rea 25600 (fz H), ceI G lea 160 Ls]) F (cn_MO_cell l G (Ls j.toNat) (Ls i.toNat)) zm_MO_cell zw_844 zw_843 zd_MO_alone_79 ⟨by decide, by decide⟩ ⟨by decide, by decide⟩ [] [0, 1, 2, 3] rfl rfl ⟨rfl, rfl, by decide⟩ rfl rfl (Nat.le_of_ble_eq_true rfl) (vv_then (ws' := [ceO 7 mo [.int (iI th), .int (iI n), .int (iI ac), .ref tha, .int (iI (bZ gk)), .ref rea, .ref poa, .int (iI mn), .ref cha, .ref goa, .ref lea, .int (iI nv), .int (iI mm), .ref fia, .ref sea, .int (iI (bZ ck)), .ref sta, .ref lda, .ref vla, .int (iI (bZ gd)), .int (iI fl), .ref dia, .ref qua], ceZ G goa 25600 (fz D), ceZ G rea 25600 (fz H), ceI G lea 160 Ls]) (st' := [.int (iI (160 * (Ls j.toNat) + (Ls i.toNat))), .ref rea]) [0, 1, 2, 3] rfl rfl rfl ?_)
            refine vv_zald F zd_MO_alone_82 2 rfl ⟨by omega, by omega⟩ (by decide) ?_
            refine vv_ti (congrArg bZ (fzI (B := H) (u := Ls j.toNat) (v := Ls i.toNat) (by omega) ⟨by omega, by omega⟩)) ?_
            refine vv_if_ne (tgt := 90) F zd_MO_alone_83 rfl (bZ_rg _) (fun h5 => ?_) (fun h5 => ?_)
            · have h5 : (H (Ls j.toNat).toNat (Ls i.toNat).toNat) = true := by cases hb9 : (H (Ls j.toNat).toNat (Ls i.toNat).toNat) with | true => rfl | false => exact absurd ((bZ_0 _).mpr hb9) h5
              refine vv_iconst F zd_MO_alone_90 ?_
              refine vv_ti (show (0 : Int) = bZ false from rfl) ?_
              refine vv_istore (lv' := [(0, .ref mo), (1, .int (iI u)), (2, .int (iI (bZ onl))), (3, .int (iI z)), (4, .int (iI i)), (5, .int (iI (bZ false))), (6, .int (iI j))]) F zd_MO_alone_91 (by decide) [1, 2, 3, 4, 5, 0, 6] rfl ?_
              refine vv_iinc (j := 6) (lv' := [(0, .ref mo), (1, .int (iI u)), (2, .int (iI (bZ onl))), (3, .int (iI z)), (4, .int (iI i)), (5, .int (iI (bZ false))), (6, .int (iI (j + 1)))]) F zd_MO_alone_93 rfl (by decide) [1, 2, 3, 4, 5, 6, 0] rfl ?_
              refine vv_goto (tgt := 26) F zd_MO_alone_96 rfl ?_
              exact ih (j + 1) false (by omega) ⟨by omega, by rw [show (j + 1).toNat = j.toNat + 1 by omega, malb_s (by rw [← hI.2]; exact h1) h2, malq_t (by omega) h4 h5]; rfl⟩
            · have h5 : (H (Ls j.toNat).toNat (Ls i.toNat).toNat) = false := (bZ_0 _).mp h5
              refine vv_iconst F zd_MO_alone_86 ?_
              refine vv_goto (tgt := 91) F zd_MO_alone_87 rfl ?_
              refine vv_ti (show (1 : Int) = bZ true from rfl) ?_
              refine vv_istore (lv' := [(0, .ref mo), (1, .int (iI u)), (2, .int (iI (bZ onl))), (3, .int (iI z)), (4, .int (iI i)), (5, .int (iI (bZ true))), (6, .int (iI j))]) F zd_MO_alone_91 (by decide) [1, 2, 3, 4, 5, 0, 6] rfl ?_
              refine vv_iinc (j := 6) (lv' := [(0, .ref mo), (1, .int (iI u)), (2, .int (iI (bZ onl))), (3, .int (iI z)), (4, .int (iI i)), (5, .int (iI (bZ true))), (6, .int (iI (j + 1)))]) F zd_MO_alone_93 rfl (by decide) [1, 2, 3, 4, 5, 6, 0] rfl ?_
              refine vv_goto (tgt := 26) F zd_MO_alone_96 rfl ?_
              exact ih (j + 1) true (by omega) ⟨by omega, by rw [show (j + 1).toNat = j.toNat + 1 by omega, malb_s (by rw [← hI.2]; exact h1) h2, malq_h h5]; rfl⟩

set_option maxHeartbeats 4000000 in
set_option maxRecDepth 100000 in
theorem lp_MO_al {p : Program} {l : Launch} {e : Env} {s : State} {m : MethodId} {args : Array Value} {below : List Frame} {meth : Method} {c : Code} {A : Nat → Prop} {Q : State → Prop} {G : vv_G} (F : vv_F p s m args meth c zc_MO_alone "ClauseGraphModel" "alone" (some .int) G A 7) (mo : Nat) (th : Int) (n : Int) (ac : Int) (tha : Nat) (gk : Bool) (rea : Nat) (poa : Nat) (mn : Int) (cha : Nat) (goa : Nat) (lea : Nat) (nv : Int) (mm : Int) (fia : Nat) (sea : Nat) (ck : Bool) (sta : Nat) (lda : Nat) (vla : Nat) (gd : Bool) (fl : Int) (dia : Nat) (qua : Nat) (D : Nat → Nat → Bool) (H : Nat → Nat → Bool) (Ls : Nat → Int) (u : Int) (onl : Bool) (hm : 0 ≤ mn ∧ mn ≤ 160) (hu : 0 ≤ u ∧ u < 160) (hLs : ∀ c : Nat, (c : Int) < mn → 0 ≤ Ls c ∧ Ls c < 160)
    (k : ∀ (z : Int), (0 ≤ mn ∧ z = (cN (mal D H Ls mn.toNat u.toNat onl) mn.toNat : Int)) → vv_V p l e { frames := 2, cells := 0, slots := 0, locals := 43 } s m args below meth c G A 7 Q 118 [(0, .ref mo), (1, .int (iI u)), (2, .int (iI (bZ onl))), (3, .int (iI z)), (4, .int (iI mn))] [] [ceO 7 mo [.int (iI th), .int (iI n), .int (iI ac), .ref tha, .int (iI (bZ gk)), .ref rea, .ref poa, .int (iI mn), .ref cha, .ref goa, .ref lea, .int (iI nv), .int (iI mm), .ref fia, .ref sea, .int (iI (bZ ck)), .ref sta, .ref lda, .ref vla, .int (iI (bZ gd)), .int (iI fl), .ref dia, .ref qua], ceZ G goa 25600 (fz D), ceZ G rea 25600 (fz H), ceI G lea 160 Ls] 0 0)  :
    ∀ (d : Nat) (i : Int) (z : Int), i + (d : Int) = mn → (0 ≤ i ∧ z = (cN (mal D H Ls mn.toNat u.toNat onl) i.toNat : Int)) → vv_V p l e { frames := 2, cells := 0, slots := 0, locals := 43 } s m args below meth c G A 7 Q 5 [(0, .ref mo), (1, .int (iI u)), (2, .int (iI (bZ onl))), (3, .int (iI z)), (4, .int (iI i))] [] [ceO 7 mo [.int (iI th), .int (iI n), .int (iI ac), .ref tha, .int (iI (bZ gk)), .ref rea, .ref poa, .int (iI mn), .ref cha, .ref goa, .ref lea, .int (iI nv), .int (iI mm), .ref fia, .ref sea, .int (iI (bZ ck)), .ref sta, .ref lda, .ref vla, .int (iI (bZ gd)), .int (iI fl), .ref dia, .ref qua], ceZ G goa 25600 (fz D), ceZ G rea 25600 (fz H), ceI G lea 160 Ls] 0 0 := by
  intro d
  induction d with
  | zero =>
    intro i z hd hI
    have hz : i = mn := by omega
    subst hz
    refine vv_iload F zd_MO_alone_5 4 rfl ?_
    refine vv_aload_n F zd_MO_alone_7 rfl 0 rfl ?_
    refine vv_get F zd_MO_alone_8 zf_MO 0 rfl rfl 7 (by decide) zw_763 rfl ?_
    refine vv_icmp_ge (tgt := 118) F zd_MO_alone_11 rfl (by first | exact ⟨by omega, by omega⟩) (by first | exact ⟨by omega, by omega⟩) (fun _ => ?_) (fun h9 => absurd h9 (by omega))
    exact k z hI
  | succ d ih =>
    intro i z hd hI
    refine vv_iload F zd_MO_alone_5 4 rfl ?_
    refine vv_aload_n F zd_MO_alone_7 rfl 0 rfl ?_
    refine vv_get F zd_MO_alone_8 zf_MO 0 rfl rfl 7 (by decide) zw_763 rfl ?_
    refine vv_icmp_ge (tgt := 118) F zd_MO_alone_11 rfl (by first | exact ⟨by omega, by omega⟩) (by first | exact ⟨by omega, by omega⟩) (fun h9 => absurd h9 (by omega)) (fun _ => ?_)
    refine vv_aload_n F zd_MO_alone_14 rfl 0 rfl ?_
    refine vv_iload_n F zd_MO_alone_15 rfl 1 rfl ?_
    refine vv_iload F zd_MO_alone_16 4 rfl ?_
    refine vv_callV (q0 := 0) (As := [.int (iI u), .int (iI i)]) (rest := []) (wr := [ceZ G rea 25600 (fz H), ceI G lea 160 Ls]) F (cn_MO_goesTo l G mo th n ac tha gk rea poa mn cha goa lea nv mm fia sea ck sta lda vla gd fl dia qua D u i ⟨by omega, by omega⟩ ⟨by omega, by omega⟩) zm_MO_goesTo ⟨zw_880, zs_MO_goesTo⟩ zw_878 zd_MO_alone_18 ⟨by decide, by decide⟩ ⟨by decide, by decide⟩ [0, 1] [2, 3] rfl rfl ⟨rfl, rfl, by decide⟩ rfl rfl rfl rfl (Nat.le_of_ble_eq_true rfl) (vv_then (ws' := [ceO 7 mo [.int (iI th), .int (iI n), .int (iI ac), .ref tha, .int (iI (bZ gk)), .ref rea, .ref poa, .int (iI mn), .ref cha, .ref goa, .ref lea, .int (iI nv), .int (iI mm), .ref fia, .ref sea, .int (iI (bZ ck)), .ref sta, .ref lda, .ref vla, .int (iI (bZ gd)), .int (iI fl), .ref dia, .ref qua], ceZ G goa 25600 (fz D), ceZ G rea 25600 (fz H), ceI G lea 160 Ls]) (st' := [.int (iI (bZ (D u.toNat i.toNat)))]) [2, 3, 0, 1] rfl rfl rfl ?_)
    refine vv_istore (lv' := [(0, .ref mo), (1, .int (iI u)), (2, .int (iI (bZ onl))), (3, .int (iI z)), (4, .int (iI i)), (5, .int (iI (bZ (D u.toNat i.toNat))))]) F zd_MO_alone_21 (by decide) [1, 2, 3, 4, 5, 0] rfl ?_
    refine vv_iconst F zd_MO_alone_23 ?_
    refine vv_istore (lv' := [(0, .ref mo), (1, .int (iI u)), (2, .int (iI (bZ onl))), (3, .int (iI z)), (4, .int (iI i)), (5, .int (iI (bZ (D u.toNat i.toNat)))), (6, .int (iI 0))]) F zd_MO_alone_24 (by decide) [1, 2, 3, 4, 5, 6, 0] rfl ?_
    refine lp_MO_al1 F mo th n ac tha gk rea poa mn cha goa lea nv mm fia sea ck sta lda vla gd fl dia qua D H Ls u onl i z hm hu hLs ⟨by omega, by omega⟩ (fun b9 hb9 => ?_) mn.toNat 0 _ (by omega) ⟨by omega, malb_0.symm⟩
    refine vv_iload F zd_MO_alone_99 5 rfl ?_
    refine vv_if_eq (tgt := 110) F zd_MO_alone_101 rfl (bZ_rg _) (fun h1 => ?_) (fun h1 => ?_)
    · have h1 : b9 = false := (bZ_0 _).mp h1
      refine vv_iload_n F zd_MO_alone_110 rfl 3 rfl ?_
      refine vv_istore_n (lv' := [(0, .ref mo), (1, .int (iI u)), (2, .int (iI (bZ onl))), (3, .int (iI z)), (4, .int (iI i)), (5, .int (iI (bZ b9)))]) F zd_MO_alone_111 rfl (by decide) [1, 2, 3, 0, 4, 5] rfl ?_
      refine vv_iinc (j := 4) (lv' := [(0, .ref mo), (1, .int (iI u)), (2, .int (iI (bZ onl))), (3, .int (iI z)), (4, .int (iI (i + 1))), (5, .int (iI (bZ b9)))]) F zd_MO_alone_112 rfl (by decide) [1, 2, 3, 4, 0, 5] rfl ?_
      refine vv_goto (tgt := 5) F zd_MO_alone_115 rfl ?_
      refine vv_locals (lv' := [(0, .ref mo), (1, .int (iI u)), (2, .int (iI (bZ onl))), (3, .int (iI z)), (4, .int (iI (i + 1)))]) [0, 1, 2, 3, 4] rfl ?_
      exact ih (i + 1) z (by omega) (⟨by omega, by rw [show (i + 1).toNat = i.toNat + 1 by omega, cN_f (g := (mal D H Ls mn.toNat u.toNat onl)) (by unfold mal; rw [← hb9]; exact h1)]; omega⟩)
    · have h1 : b9 = true := by cases hb9 : b9 with | true => rfl | false => exact absurd ((bZ_0 _).mpr hb9) h1
      refine vv_iload_n F zd_MO_alone_104 rfl 3 rfl ?_
      refine vv_iconst F zd_MO_alone_105 ?_
      refine vv_iadd F zd_MO_alone_106 ?_
      refine vv_goto (tgt := 111) F zd_MO_alone_107 rfl ?_
      refine vv_istore_n (lv' := [(0, .ref mo), (1, .int (iI u)), (2, .int (iI (bZ onl))), (3, .int (iI (z + 1))), (4, .int (iI i)), (5, .int (iI (bZ b9)))]) F zd_MO_alone_111 rfl (by decide) [1, 2, 3, 0, 4, 5] rfl ?_
      refine vv_iinc (j := 4) (lv' := [(0, .ref mo), (1, .int (iI u)), (2, .int (iI (bZ onl))), (3, .int (iI (z + 1))), (4, .int (iI (i + 1))), (5, .int (iI (bZ b9)))]) F zd_MO_alone_112 rfl (by decide) [1, 2, 3, 4, 0, 5] rfl ?_
      refine vv_goto (tgt := 5) F zd_MO_alone_115 rfl ?_
      refine vv_locals (lv' := [(0, .ref mo), (1, .int (iI u)), (2, .int (iI (bZ onl))), (3, .int (iI (z + 1))), (4, .int (iI (i + 1)))]) [0, 1, 2, 3, 4] rfl ?_
      exact ih (i + 1) (z + 1) (by omega) (⟨by omega, by rw [show (i + 1).toNat = i.toNat + 1 by omega, cN_t (g := (mal D H Ls mn.toNat u.toNat onl)) (by unfold mal; rw [← hb9]; exact h1)]; omega⟩)

set_option maxHeartbeats 4000000 in
set_option maxRecDepth 100000 in
theorem cn_MO_alone (l : Launch) (G : vv_G) (mo : Nat) (th : Int) (n : Int) (ac : Int) (tha : Nat) (gk : Bool) (rea : Nat) (poa : Nat) (mn : Int) (cha : Nat) (goa : Nat) (lea : Nat) (nv : Int) (mm : Int) (fia : Nat) (sea : Nat) (ck : Bool) (sta : Nat) (lda : Nat) (vla : Nat) (gd : Bool) (fl : Int) (dia : Nat) (qua : Nat) (D : Nat → Nat → Bool) (H : Nat → Nat → Bool) (Ls : Nat → Int) (u : Int) (onl : Bool) (hm : 0 ≤ mn ∧ mn ≤ 160) (hu : 0 ≤ u ∧ u < 160) (hLs : ∀ c : Nat, (c : Int) < mn → 0 ≤ Ls c ∧ Ls c < 160) :
    vv_D l zy_MO_alone zc_MO_alone 7 (some .int) { frames := 2, cells := 0, slots := 0, locals := 43 } G [.ref mo, .int (iI u), .int (iI (bZ onl))] [ceO 7 mo [.int (iI th), .int (iI n), .int (iI ac), .ref tha, .int (iI (bZ gk)), .ref rea, .ref poa, .int (iI mn), .ref cha, .ref goa, .ref lea, .int (iI nv), .int (iI mm), .ref fia, .ref sea, .int (iI (bZ ck)), .ref sta, .ref lda, .ref vla, .int (iI (bZ gd)), .int (iI fl), .ref dia, .ref qua], ceZ G goa 25600 (fz D), ceZ G rea 25600 (fz H), ceI G lea 160 Ls] (some (.int (iI (cN (mal D H Ls mn.toNat u.toNat onl) mn.toNat : Int)))) [ceO 7 mo [.int (iI th), .int (iI n), .int (iI ac), .ref tha, .int (iI (bZ gk)), .ref rea, .ref poa, .int (iI mn), .ref cha, .ref goa, .ref lea, .int (iI nv), .int (iI mm), .ref fia, .ref sea, .int (iI (bZ ck)), .ref sta, .ref lda, .ref vla, .int (iI (bZ gd)), .int (iI fl), .ref dia, .ref qua], ceZ G goa 25600 (fz D), ceZ G rea 25600 (fz H), ceI G lea 160 Ls] := by
  refine vv_met (by decide +kernel) (Nat.le_of_ble_eq_true rfl) rfl ?_
  intro p e s m args below meth c A F
  refine vv_iconst F zd_MO_alone_0 ?_
  refine vv_istore_n (lv' := [(0, .ref mo), (1, .int (iI u)), (2, .int (iI (bZ onl))), (3, .int (iI 0))]) F zd_MO_alone_1 rfl (by decide) [1, 2, 3, 0] rfl ?_
  refine vv_iconst F zd_MO_alone_2 ?_
  refine vv_istore (lv' := [(0, .ref mo), (1, .int (iI u)), (2, .int (iI (bZ onl))), (3, .int (iI 0)), (4, .int (iI 0))]) F zd_MO_alone_3 (by decide) [1, 2, 3, 4, 0] rfl ?_
  refine lp_MO_al F mo th n ac tha gk rea poa mn cha goa lea nv mm fia sea ck sta lda vla gd fl dia qua D H Ls u onl hm hu hLs (fun z9 hI => ?_) mn.toNat 0 0 (by omega) ⟨by omega, rfl⟩
  obtain rfl := hI.2
  refine vv_iload_n F zd_MO_alone_118 rfl 3 rfl ?_
  exact vv_iret F zd_MO_alone_119 ⟨rfl, rfl⟩
