set_option maxHeartbeats 4000000 in
set_option maxRecDepth 100000 in
theorem lp_MO_q1 {p : Program} {l : Launch} {e : Env} {s : State} {m : MethodId} {args : Array Value} {below : List Frame} {meth : Method} {c : Code} {A : Nat → Prop} {Q : State → Prop} {G : vv_G} (F : vv_F p s m args meth c zc_MO_knowClauses "ClauseGraphModel" "knowClauses" none G A 4) (mo : Nat) (th : Int) (n : Int) (ac : Int) (tha : Nat) (gk : Bool) (rea : Nat) (poa : Nat) (mn : Int) (cha : Nat) (goa : Nat) (lea : Nat) (nv : Int) (mm : Int) (fia : Nat) (sea : Nat) (ck : Bool) (sta : Nat) (lda : Nat) (vla : Nat) (gd : Bool) (fl : Int) (dia : Nat) (qua : Nat) (f1 : Nat → Int) (f2 : Nat → Int) (V : Nat → Int) 
    (k : ∀ (b : Nat → Bool) (g : Nat → Bool), (0 ≤ (25600 : Int) ∧ ∀ j : Nat, (j : Int) < (25600 : Int) → b j = false ∧ g j = decide (j % 161 = 0)) → vv_V p l e { frames := 2, cells := 0, slots := 0, locals := 45 } s m args below meth c G A 4 Q 54 [(0, .ref mo), (1, .int (iI (25600 : Int)))] [] [ceO 7 mo [.int (iI th), .int (iI n), .int (iI ac), .ref tha, .int (iI (bZ gk)), .ref rea, .ref poa, .int (iI mn), .ref cha, .ref goa, .ref lea, .int (iI nv), .int (iI mm), .ref fia, .ref sea, .int (iI (bZ ck)), .ref sta, .ref lda, .ref vla, .int (iI (bZ gd)), .int (iI fl), .ref dia, .ref qua], ceI G fia 400 f1, ceI G sea 400 f2, ceZ G sta 25600 b, ceZ G lda 25600 g, ceI G vla 160 V] 0 0)  :
    ∀ (d : Nat) (i : Int) (b : Nat → Bool) (g : Nat → Bool), i + (d : Int) = (25600 : Int) → (0 ≤ i ∧ ∀ j : Nat, (j : Int) < i → b j = false ∧ g j = decide (j % 161 = 0)) → vv_V p l e { frames := 2, cells := 0, slots := 0, locals := 45 } s m args below meth c G A 4 Q 15 [(0, .ref mo), (1, .int (iI i))] [] [ceO 7 mo [.int (iI th), .int (iI n), .int (iI ac), .ref tha, .int (iI (bZ gk)), .ref rea, .ref poa, .int (iI mn), .ref cha, .ref goa, .ref lea, .int (iI nv), .int (iI mm), .ref fia, .ref sea, .int (iI (bZ ck)), .ref sta, .ref lda, .ref vla, .int (iI (bZ gd)), .int (iI fl), .ref dia, .ref qua], ceI G fia 400 f1, ceI G sea 400 f2, ceZ G sta 25600 b, ceZ G lda 25600 g, ceI G vla 160 V] 0 0 := by
  intro d
  induction d with
  | zero =>
    intro i b g hd hI
    have hz : i = (25600 : Int) := by omega
    subst hz
    refine vv_iload_n F zd_MO_knowClauses_15 rfl 1 rfl ?_
    refine vv_sipush F zd_MO_knowClauses_16 (by decide) ?_
    refine vv_icmp_ge (tgt := 54) F zd_MO_knowClauses_19 rfl (by first | exact ⟨by omega, by omega⟩) (by decide) (fun _ => ?_) (fun h9 => absurd h9 (by omega))
    exact k b g hI
  | succ d ih =>
    intro i b g hd hI
    refine vv_iload_n F zd_MO_knowClauses_15 rfl 1 rfl ?_
    refine vv_sipush F zd_MO_knowClauses_16 (by decide) ?_
    refine vv_icmp_ge (tgt := 54) F zd_MO_knowClauses_19 rfl (by first | exact ⟨by omega, by omega⟩) (by decide) (fun h9 => absurd h9 (by omega)) (fun _ => ?_)
    refine vv_aload_n F zd_MO_knowClauses_22 rfl 0 rfl ?_
    refine vv_get F zd_MO_knowClauses_23 zf_MO 0 rfl rfl 16 (by decide) zw_772 rfl ?_
    refine vv_iload_n F zd_MO_knowClauses_26 rfl 1 rfl ?_
    refine vv_iconst F zd_MO_knowClauses_27 ?_
    refine vv_ti (show (0 : Int) = bZ false from rfl) ?_
    refine vv_zast (x := false) (ws' := [ceO 7 mo [.int (iI th), .int (iI n), .int (iI ac), .ref tha, .int (iI (bZ gk)), .ref rea, .ref poa, .int (iI mn), .ref cha, .ref goa, .ref lea, .int (iI nv), .int (iI mm), .ref fia, .ref sea, .int (iI (bZ ck)), .ref sta, .ref lda, .ref vla, .int (iI (bZ gd)), .int (iI fl), .ref dia, .ref qua], ceI G fia 400 f1, ceI G sea 400 f2, ceZ G sta 25600 (va_up b i.toNat false), ceZ G lda 25600 g, ceI G vla 160 V]) F zd_MO_knowClauses_28 3 rfl ⟨by omega, by omega⟩ (by decide) rfl ?_
    refine vv_aload_n F zd_MO_knowClauses_29 rfl 0 rfl ?_
    refine vv_get F zd_MO_knowClauses_30 zf_MO 0 rfl rfl 17 (by decide) zw_773 rfl ?_
    refine vv_iload_n F zd_MO_knowClauses_33 rfl 1 rfl ?_
    refine vv_iload_n F zd_MO_knowClauses_34 rfl 1 rfl ?_
    refine vv_sipush F zd_MO_knowClauses_35 (by decide) ?_
    refine vv_irem F zd_MO_knowClauses_38 (by first | exact ⟨by omega, by omega⟩) (by decide) (by omega) (by omega) ?_
    refine vv_if_ne (tgt := 46) F zd_MO_knowClauses_39 rfl (by first | exact ⟨by omega, by omega⟩) (fun h1 => ?_) (fun h1 => ?_)
    · refine vv_iconst F zd_MO_knowClauses_46 ?_
      refine vv_ti (show (0 : Int) = bZ false from rfl) ?_
      refine vv_zast (x := false) (ws' := [ceO 7 mo [.int (iI th), .int (iI n), .int (iI ac), .ref tha, .int (iI (bZ gk)), .ref rea, .ref poa, .int (iI mn), .ref cha, .ref goa, .ref lea, .int (iI nv), .int (iI mm), .ref fia, .ref sea, .int (iI (bZ ck)), .ref sta, .ref lda, .ref vla, .int (iI (bZ gd)), .int (iI fl), .ref dia, .ref qua], ceI G fia 400 f1, ceI G sea 400 f2, ceZ G sta 25600 (va_up b i.toNat false), ceZ G lda 25600 (va_up g i.toNat false), ceI G vla 160 V]) F zd_MO_knowClauses_47 4 rfl ⟨by omega, by omega⟩ (by decide) rfl ?_
      refine vv_iinc (j := 1) (lv' := [(0, .ref mo), (1, .int (iI (i + 1)))]) F zd_MO_knowClauses_48 rfl (by decide) [1, 0] rfl ?_
      refine vv_goto (tgt := 15) F zd_MO_knowClauses_51 rfl ?_
      exact ih (i + 1) (va_up b i.toNat false) (va_up g i.toNat false) (by omega) (⟨by omega, fun j hj => by
      by_cases z : j = i.toNat
      · rw [z, va_up_self, va_up_self]; exact ⟨rfl, (decide_eq_false (by omega)).symm⟩
      · rw [va_up_ne _ _ z, va_up_ne _ _ z]; exact hI.2 j (by omega)⟩)
    · refine vv_iconst F zd_MO_knowClauses_42 ?_
      refine vv_goto (tgt := 47) F zd_MO_knowClauses_43 rfl ?_
      refine vv_ti (show (1 : Int) = bZ true from rfl) ?_
      refine vv_zast (x := true) (ws' := [ceO 7 mo [.int (iI th), .int (iI n), .int (iI ac), .ref tha, .int (iI (bZ gk)), .ref rea, .ref poa, .int (iI mn), .ref cha, .ref goa, .ref lea, .int (iI nv), .int (iI mm), .ref fia, .ref sea, .int (iI (bZ ck)), .ref sta, .ref lda, .ref vla, .int (iI (bZ gd)), .int (iI fl), .ref dia, .ref qua], ceI G fia 400 f1, ceI G sea 400 f2, ceZ G sta 25600 (va_up b i.toNat false), ceZ G lda 25600 (va_up g i.toNat true), ceI G vla 160 V]) F zd_MO_knowClauses_47 4 rfl ⟨by omega, by omega⟩ (by decide) rfl ?_
      refine vv_iinc (j := 1) (lv' := [(0, .ref mo), (1, .int (iI (i + 1)))]) F zd_MO_knowClauses_48 rfl (by decide) [1, 0] rfl ?_
      refine vv_goto (tgt := 15) F zd_MO_knowClauses_51 rfl ?_
      exact ih (i + 1) (va_up b i.toNat false) (va_up g i.toNat true) (by omega) (⟨by omega, fun j hj => by
      by_cases z : j = i.toNat
      · rw [z, va_up_self, va_up_self]; exact ⟨rfl, (decide_eq_true (by omega)).symm⟩
      · rw [va_up_ne _ _ z, va_up_ne _ _ z]; exact hI.2 j (by omega)⟩)

set_option maxHeartbeats 4000000 in
set_option maxRecDepth 100000 in
theorem lp_MO_q2 {p : Program} {l : Launch} {e : Env} {s : State} {m : MethodId} {args : Array Value} {below : List Frame} {meth : Method} {c : Code} {A : Nat → Prop} {Q : State → Prop} {G : vv_G} (F : vv_F p s m args meth c zc_MO_knowClauses "ClauseGraphModel" "knowClauses" none G A 4) (mo : Nat) (th : Int) (n : Int) (ac : Int) (tha : Nat) (gk : Bool) (rea : Nat) (poa : Nat) (mn : Int) (cha : Nat) (goa : Nat) (lea : Nat) (nv : Int) (mm : Int) (fia : Nat) (sea : Nat) (ck : Bool) (sta : Nat) (lda : Nat) (vla : Nat) (gd : Bool) (dia : Nat) (qua : Nat) (f1 : Nat → Int) (f2 : Nat → Int) (V : Nat → Int) (hv : 1 ≤ nv ∧ nv ≤ 80) (hm : 0 ≤ mm ∧ mm ≤ 400) (hf : ∀ j : Nat, (j : Int) < mm → ¬ nli nv (f1 j) ∧ ¬ nli nv (f2 j))
    (k : ∀ (fl : Int) (S : Nat → Nat → Bool) (Ld : Nat → Nat → Bool), (0 ≤ mm ∧ S = stB (fun j => ptO (f1 j)) (fun j => ptO (f2 j)) mm.toNat ∧ ldR S (2 * nv).toNat Ld ∧ fai (fun j => ptO (f1 j)) (fun j => ptO (f2 j)) (2 * nv).toNat mm.toNat fl) → vv_V p l e { frames := 2, cells := 0, slots := 0, locals := 45 } s m args below meth c G A 4 Q 141 [(0, .ref mo), (1, .int (iI mm))] [] [ceO 7 mo [.int (iI th), .int (iI n), .int (iI ac), .ref tha, .int (iI (bZ gk)), .ref rea, .ref poa, .int (iI mn), .ref cha, .ref goa, .ref lea, .int (iI nv), .int (iI mm), .ref fia, .ref sea, .int (iI (bZ ck)), .ref sta, .ref lda, .ref vla, .int (iI (bZ gd)), .int (iI fl), .ref dia, .ref qua], ceI G fia 400 f1, ceI G sea 400 f2, ceZ G sta 25600 (fz S), ceZ G lda 25600 (fz Ld), ceI G vla 160 V] 0 0)  :
    ∀ (d : Nat) (i : Int) (fl : Int) (S : Nat → Nat → Bool) (Ld : Nat → Nat → Bool), i + (d : Int) = mm → (0 ≤ i ∧ S = stB (fun j => ptO (f1 j)) (fun j => ptO (f2 j)) i.toNat ∧ ldR S (2 * nv).toNat Ld ∧ fai (fun j => ptO (f1 j)) (fun j => ptO (f2 j)) (2 * nv).toNat i.toNat fl) → vv_V p l e { frames := 2, cells := 0, slots := 0, locals := 45 } s m args below meth c G A 4 Q 61 [(0, .ref mo), (1, .int (iI i))] [] [ceO 7 mo [.int (iI th), .int (iI n), .int (iI ac), .ref tha, .int (iI (bZ gk)), .ref rea, .ref poa, .int (iI mn), .ref cha, .ref goa, .ref lea, .int (iI nv), .int (iI mm), .ref fia, .ref sea, .int (iI (bZ ck)), .ref sta, .ref lda, .ref vla, .int (iI (bZ gd)), .int (iI fl), .ref dia, .ref qua], ceI G fia 400 f1, ceI G sea 400 f2, ceZ G sta 25600 (fz S), ceZ G lda 25600 (fz Ld), ceI G vla 160 V] 0 0 := by
  intro d
  induction d with
  | zero =>
    intro i fl S Ld hd hI
    have hz : i = mm := by omega
    subst hz
    refine vv_iload_n F zd_MO_knowClauses_61 rfl 1 rfl ?_
    refine vv_aload_n F zd_MO_knowClauses_62 rfl 0 rfl ?_
    refine vv_get F zd_MO_knowClauses_63 zf_MO 0 rfl rfl 12 (by decide) zw_768 rfl ?_
    refine vv_icmp_ge (tgt := 141) F zd_MO_knowClauses_66 rfl (by first | exact ⟨by omega, by omega⟩) (by first | exact ⟨by omega, by omega⟩) (fun _ => ?_) (fun h9 => absurd h9 (by omega))
    exact k fl S Ld hI
  | succ d ih =>
    intro i fl S Ld hd hI
    obtain ⟨e1, e2⟩ := hf i.toNat (by omega)
    unfold nli at e1 e2
    have e3 : 0 ≤ ptO (f1 i.toNat) ∧ ptO (f1 i.toNat) < 2 * nv := by unfold ptO; split <;> omega
    have e4 : 0 ≤ ptO (f2 i.toNat) ∧ ptO (f2 i.toNat) < 2 * nv := by unfold ptO; split <;> omega
    have e5 := opp_lt (p := (ptO (f1 i.toNat)).toNat) (n := nv.toNat) (by omega)
    have e6 := opp_lt (p := (ptO (f2 i.toNat)).toNat) (n := nv.toNat) (by omega)
    have e7 := fai_rg hI.2.2.2
    refine vv_iload_n F zd_MO_knowClauses_61 rfl 1 rfl ?_
    refine vv_aload_n F zd_MO_knowClauses_62 rfl 0 rfl ?_
    refine vv_get F zd_MO_knowClauses_63 zf_MO 0 rfl rfl 12 (by decide) zw_768 rfl ?_
    refine vv_icmp_ge (tgt := 141) F zd_MO_knowClauses_66 rfl (by first | exact ⟨by omega, by omega⟩) (by first | exact ⟨by omega, by omega⟩) (fun h9 => absurd h9 (by omega)) (fun _ => ?_)
    refine vv_aload_n F zd_MO_knowClauses_69 rfl 0 rfl ?_
    refine vv_get F zd_MO_knowClauses_70 zf_MO 0 rfl rfl 13 (by decide) zw_769 rfl ?_
    refine vv_iload_n F zd_MO_knowClauses_73 rfl 1 rfl ?_
    refine vv_iald F zd_MO_knowClauses_74 1 rfl ⟨by omega, by omega⟩ (by decide) ?_
    refine vv_callS (As := [.int (iI (f1 i.toNat))]) (rest := []) (wr := [ceO 7 mo [.int (iI th), .int (iI n), .int (iI ac), .ref tha, .int (iI (bZ gk)), .ref rea, .ref poa, .int (iI mn), .ref cha, .ref goa, .ref lea, .int (iI nv), .int (iI mm), .ref fia, .ref sea, .int (iI (bZ ck)), .ref sta, .ref lda, .ref vla, .int (iI (bZ gd)), .int (iI fl), .ref dia, .ref qua], ceI G fia 400 f1, ceI G sea 400 f2, ceZ G sta 25600 (fz S), ceZ G lda 25600 (fz Ld), ceI G vla 160 V]) F (cn_MO_literal l G (f1 i.toNat) ⟨by omega, by omega⟩) zm_MO_literal zw_944 zw_943 zd_MO_knowClauses_75 ⟨by decide, by decide⟩ ⟨by decide, by decide⟩ [] [0, 1, 2, 3, 4, 5] rfl rfl ⟨rfl, rfl, by decide⟩ rfl rfl (Nat.le_of_ble_eq_true rfl) (vv_then (ws' := [ceO 7 mo [.int (iI th), .int (iI n), .int (iI ac), .ref tha, .int (iI (bZ gk)), .ref rea, .ref poa, .int (iI mn), .ref cha, .ref goa, .ref lea, .int (iI nv), .int (iI mm), .ref fia, .ref sea, .int (iI (bZ ck)), .ref sta, .ref lda, .ref vla, .int (iI (bZ gd)), .int (iI fl), .ref dia, .ref qua], ceI G fia 400 f1, ceI G sea 400 f2, ceZ G sta 25600 (fz S), ceZ G lda 25600 (fz Ld), ceI G vla 160 V]) (st' := [.int (iI (ptO (f1 i.toNat)))]) [0, 1, 2, 3, 4, 5] rfl rfl rfl ?_)
    refine vv_istore_n (lv' := [(0, .ref mo), (1, .int (iI i)), (2, .int (iI (ptO (f1 i.toNat))))]) F zd_MO_knowClauses_78 rfl (by decide) [1, 2, 0] rfl ?_
    refine vv_aload_n F zd_MO_knowClauses_79 rfl 0 rfl ?_
    refine vv_get F zd_MO_knowClauses_80 zf_MO 0 rfl rfl 14 (by decide) zw_770 rfl ?_
    refine vv_iload_n F zd_MO_knowClauses_83 rfl 1 rfl ?_
    refine vv_iald F zd_MO_knowClauses_84 2 rfl ⟨by omega, by omega⟩ (by decide) ?_
    refine vv_callS (As := [.int (iI (f2 i.toNat))]) (rest := []) (wr := [ceO 7 mo [.int (iI th), .int (iI n), .int (iI ac), .ref tha, .int (iI (bZ gk)), .ref rea, .ref poa, .int (iI mn), .ref cha, .ref goa, .ref lea, .int (iI nv), .int (iI mm), .ref fia, .ref sea, .int (iI (bZ ck)), .ref sta, .ref lda, .ref vla, .int (iI (bZ gd)), .int (iI fl), .ref dia, .ref qua], ceI G fia 400 f1, ceI G sea 400 f2, ceZ G sta 25600 (fz S), ceZ G lda 25600 (fz Ld), ceI G vla 160 V]) F (cn_MO_literal l G (f2 i.toNat) ⟨by omega, by omega⟩) zm_MO_literal zw_944 zw_943 zd_MO_knowClauses_85 ⟨by decide, by decide⟩ ⟨by decide, by decide⟩ [] [0, 1, 2, 3, 4, 5] rfl rfl ⟨rfl, rfl, by decide⟩ rfl rfl (Nat.le_of_ble_eq_true rfl) (vv_then (ws' := [ceO 7 mo [.int (iI th), .int (iI n), .int (iI ac), .ref tha, .int (iI (bZ gk)), .ref rea, .ref poa, .int (iI mn), .ref cha, .ref goa, .ref lea, .int (iI nv), .int (iI mm), .ref fia, .ref sea, .int (iI (bZ ck)), .ref sta, .ref lda, .ref vla, .int (iI (bZ gd)), .int (iI fl), .ref dia, .ref qua], ceI G fia 400 f1, ceI G sea 400 f2, ceZ G sta 25600 (fz S), ceZ G lda 25600 (fz Ld), ceI G vla 160 V]) (st' := [.int (iI (ptO (f2 i.toNat)))]) [0, 1, 2, 3, 4, 5] rfl rfl rfl ?_)
    refine vv_istore_n (lv' := [(0, .ref mo), (1, .int (iI i)), (2, .int (iI (ptO (f1 i.toNat)))), (3, .int (iI (ptO (f2 i.toNat))))]) F zd_MO_knowClauses_88 rfl (by decide) [1, 2, 3, 0] rfl ?_
    refine vv_aload_n F zd_MO_knowClauses_89 rfl 0 rfl ?_
    refine vv_iload_n F zd_MO_knowClauses_90 rfl 2 rfl ?_
    refine vv_callS (As := [.int (iI (ptO (f1 i.toNat)))]) (rest := [.ref mo]) (wr := [ceO 7 mo [.int (iI th), .int (iI n), .int (iI ac), .ref tha, .int (iI (bZ gk)), .ref rea, .ref poa, .int (iI mn), .ref cha, .ref goa, .ref lea, .int (iI nv), .int (iI mm), .ref fia, .ref sea, .int (iI (bZ ck)), .ref sta, .ref lda, .ref vla, .int (iI (bZ gd)), .int (iI fl), .ref dia, .ref qua], ceI G fia 400 f1, ceI G sea 400 f2, ceZ G sta 25600 (fz S), ceZ G lda 25600 (fz Ld), ceI G vla 160 V]) F (cn_MO_opposite l G (ptO (f1 i.toNat)) ⟨by omega, by omega⟩) zm_MO_opposite zw_947 zw_946 zd_MO_knowClauses_91 ⟨by decide, by decide⟩ ⟨by decide, by decide⟩ [] [0, 1, 2, 3, 4, 5] rfl rfl ⟨rfl, rfl, by decide⟩ rfl rfl (Nat.le_of_ble_eq_true rfl) (vv_then (ws' := [ceO 7 mo [.int (iI th), .int (iI n), .int (iI ac), .ref tha, .int (iI (bZ gk)), .ref rea, .ref poa, .int (iI mn), .ref cha, .ref goa, .ref lea, .int (iI nv), .int (iI mm), .ref fia, .ref sea, .int (iI (bZ ck)), .ref sta, .ref lda, .ref vla, .int (iI (bZ gd)), .int (iI fl), .ref dia, .ref qua], ceI G fia 400 f1, ceI G sea 400 f2, ceZ G sta 25600 (fz S), ceZ G lda 25600 (fz Ld), ceI G vla 160 V]) (st' := [.int (iI (opp (ptO (f1 i.toNat)).toNat : Int)), .ref mo]) [0, 1, 2, 3, 4, 5] rfl rfl rfl ?_)
    refine vv_iload_n F zd_MO_knowClauses_94 rfl 3 rfl ?_
    refine vv_callV (q0 := 0) (As := [.int (iI (opp (ptO (f1 i.toNat)).toNat : Int)), .int (iI (ptO (f2 i.toNat)))]) (rest := []) (wr := [ceI G fia 400 f1, ceI G sea 400 f2, ceI G vla 160 V]) F (cn_MO_addStep l G mo th n ac tha gk rea poa mn cha goa lea nv mm fia sea ck sta lda vla gd fl dia qua S Ld (opp (ptO (f1 i.toNat)).toNat : Int) (ptO (f2 i.toNat)) ⟨by omega, by omega⟩ ⟨by omega, by omega⟩ ⟨by omega, by omega⟩ hI.2.2.1) zm_MO_addStep ⟨zw_951, zs_MO_addStep⟩ zw_949 zd_MO_knowClauses_95 ⟨by decide, by decide⟩ ⟨by decide, by decide⟩ [0, 3, 4] [1, 2, 5] rfl rfl ⟨rfl, rfl, by decide⟩ rfl rfl rfl rfl (Nat.le_of_ble_eq_true rfl) (fun v9 w9 hp9 => ?_)
    obtain ⟨T2_1, hf1_0, rfl, rfl⟩ := hp9
    refine vv_thenE (ws' := [ceO 7 mo [.int (iI th), .int (iI n), .int (iI ac), .ref tha, .int (iI (bZ gk)), .ref rea, .ref poa, .int (iI mn), .ref cha, .ref goa, .ref lea, .int (iI nv), .int (iI mm), .ref fia, .ref sea, .int (iI (bZ ck)), .ref sta, .ref lda, .ref vla, .int (iI (bZ gd)), .int (iI fl), .ref dia, .ref qua], ceI G fia 400 f1, ceI G sea 400 f2, ceZ G sta 25600 (fz (bP S (opp (ptO (f1 i.toNat)).toNat : Int).toNat (ptO (f2 i.toNat)).toNat true)), ceZ G lda 25600 (fz T2_1), ceI G vla 160 V]) (st' := []) (kc' := 0) (ks' := 0) [3, 0, 1, 4, 5, 2] rfl rfl rfl ?_
    refine vv_aload_n F zd_MO_knowClauses_98 rfl 0 rfl ?_
    refine vv_iload_n F zd_MO_knowClauses_99 rfl 3 rfl ?_
    refine vv_callS (As := [.int (iI (ptO (f2 i.toNat)))]) (rest := [.ref mo]) (wr := [ceO 7 mo [.int (iI th), .int (iI n), .int (iI ac), .ref tha, .int (iI (bZ gk)), .ref rea, .ref poa, .int (iI mn), .ref cha, .ref goa, .ref lea, .int (iI nv), .int (iI mm), .ref fia, .ref sea, .int (iI (bZ ck)), .ref sta, .ref lda, .ref vla, .int (iI (bZ gd)), .int (iI fl), .ref dia, .ref qua], ceI G fia 400 f1, ceI G sea 400 f2, ceZ G sta 25600 (fz (bP S (opp (ptO (f1 i.toNat)).toNat : Int).toNat (ptO (f2 i.toNat)).toNat true)), ceZ G lda 25600 (fz T2_1), ceI G vla 160 V]) F (cn_MO_opposite l G (ptO (f2 i.toNat)) ⟨by omega, by omega⟩) zm_MO_opposite zw_947 zw_946 zd_MO_knowClauses_100 ⟨by decide, by decide⟩ ⟨by decide, by decide⟩ [] [0, 1, 2, 3, 4, 5] rfl rfl ⟨rfl, rfl, by decide⟩ rfl rfl (Nat.le_of_ble_eq_true rfl) (vv_then (ws' := [ceO 7 mo [.int (iI th), .int (iI n), .int (iI ac), .ref tha, .int (iI (bZ gk)), .ref rea, .ref poa, .int (iI mn), .ref cha, .ref goa, .ref lea, .int (iI nv), .int (iI mm), .ref fia, .ref sea, .int (iI (bZ ck)), .ref sta, .ref lda, .ref vla, .int (iI (bZ gd)), .int (iI fl), .ref dia, .ref qua], ceI G fia 400 f1, ceI G sea 400 f2, ceZ G sta 25600 (fz (bP S (opp (ptO (f1 i.toNat)).toNat : Int).toNat (ptO (f2 i.toNat)).toNat true)), ceZ G lda 25600 (fz T2_1), ceI G vla 160 V]) (st' := [.int (iI (opp (ptO (f2 i.toNat)).toNat : Int)), .ref mo]) [0, 1, 2, 3, 4, 5] rfl rfl rfl ?_)
    refine vv_iload_n F zd_MO_knowClauses_103 rfl 2 rfl ?_
    refine vv_callV (q0 := 0) (As := [.int (iI (opp (ptO (f2 i.toNat)).toNat : Int)), .int (iI (ptO (f1 i.toNat)))]) (rest := []) (wr := [ceI G fia 400 f1, ceI G sea 400 f2, ceI G vla 160 V]) F (cn_MO_addStep l G mo th n ac tha gk rea poa mn cha goa lea nv mm fia sea ck sta lda vla gd fl dia qua (bP S (opp (ptO (f1 i.toNat)).toNat : Int).toNat (ptO (f2 i.toNat)).toNat true) T2_1 (opp (ptO (f2 i.toNat)).toNat : Int) (ptO (f1 i.toNat)) ⟨by omega, by omega⟩ ⟨by omega, by omega⟩ ⟨by omega, by omega⟩ hf1_0) zm_MO_addStep ⟨zw_951, zs_MO_addStep⟩ zw_949 zd_MO_knowClauses_104 ⟨by decide, by decide⟩ ⟨by decide, by decide⟩ [0, 3, 4] [1, 2, 5] rfl rfl ⟨rfl, rfl, by decide⟩ rfl rfl rfl rfl (Nat.le_of_ble_eq_true rfl) (fun v9 w9 hp9 => ?_)
    obtain ⟨T2_2, hf2_0, rfl, rfl⟩ := hp9
    refine vv_thenE (ws' := [ceO 7 mo [.int (iI th), .int (iI n), .int (iI ac), .ref tha, .int (iI (bZ gk)), .ref rea, .ref poa, .int (iI mn), .ref cha, .ref goa, .ref lea, .int (iI nv), .int (iI mm), .ref fia, .ref sea, .int (iI (bZ ck)), .ref sta, .ref lda, .ref vla, .int (iI (bZ gd)), .int (iI fl), .ref dia, .ref qua], ceI G fia 400 f1, ceI G sea 400 f2, ceZ G sta 25600 (fz (bP (bP S (opp (ptO (f1 i.toNat)).toNat : Int).toNat (ptO (f2 i.toNat)).toNat true) (opp (ptO (f2 i.toNat)).toNat : Int).toNat (ptO (f1 i.toNat)).toNat true)), ceZ G lda 25600 (fz T2_2), ceI G vla 160 V]) (st' := []) (kc' := 0) (ks' := 0) [3, 0, 1, 4, 5, 2] rfl rfl rfl ?_
    have hst : stB (fun j => ptO (f1 j)) (fun j => ptO (f2 j)) (i + 1).toNat = bP (bP S (opp (ptO (f1 i.toNat)).toNat) (ptO (f2 i.toNat)).toNat true) (opp (ptO (f2 i.toNat)).toNat) (ptO (f1 i.toNat)).toNat true := by rw [show (i + 1).toNat = i.toNat + 1 by omega, hI.2.1]; rfl
    have hld : ldR (stB (fun j => ptO (f1 j)) (fun j => ptO (f2 j)) (i + 1).toNat) (2 * nv).toNat T2_2 := by rw [hst]; exact hf2_0
    have hct := mrq_contra (nv := nv.toNat) (S := stB (fun j => ptO (f1 j)) (fun j => ptO (f2 j)) (i + 1).toNat) (L := T2_2) (by rw [← show (2 * nv).toNat = 2 * nv.toNat by omega]; exact hld)
    rw [← show (2 * nv).toNat = 2 * nv.toNat by omega, show (i + 1).toNat = i.toNat + 1 by omega] at hct
    refine vv_aload_n F zd_MO_knowClauses_107 rfl 0 rfl ?_
    refine vv_aload_n F zd_MO_knowClauses_108 rfl 0 rfl ?_
    refine vv_get F zd_MO_knowClauses_109 zf_MO 0 rfl rfl 20 (by decide) zw_776 rfl ?_
    refine vv_if_ge (tgt := 128) F zd_MO_knowClauses_112 rfl (by first | exact ⟨by omega, by omega⟩) (fun h1 => ?_) (fun h1 => ?_)
    · refine vv_aload_n F zd_MO_knowClauses_128 rfl 0 rfl ?_
      refine vv_get F zd_MO_knowClauses_129 zf_MO 0 rfl rfl 20 (by decide) zw_776 rfl ?_
      refine vv_put (v := .int (iI fl)) (ws' := [ceO 7 mo [.int (iI th), .int (iI n), .int (iI ac), .ref tha, .int (iI (bZ gk)), .ref rea, .ref poa, .int (iI mn), .ref cha, .ref goa, .ref lea, .int (iI nv), .int (iI mm), .ref fia, .ref sea, .int (iI (bZ ck)), .ref sta, .ref lda, .ref vla, .int (iI (bZ gd)), .int (iI fl), .ref dia, .ref qua], ceI G fia 400 f1, ceI G sea 400 f2, ceZ G sta 25600 (fz (bP (bP S (opp (ptO (f1 i.toNat)).toNat : Int).toNat (ptO (f2 i.toNat)).toNat true) (opp (ptO (f2 i.toNat)).toNat : Int).toNat (ptO (f1 i.toNat)).toNat true)), ceZ G lda 25600 (fz T2_2), ceI G vla 160 V]) F zd_MO_knowClauses_132 zf_MO zt_MO_ok zn_MO 0 rfl rfl 20 (by decide) zw_776 rfl rfl rfl (Nat.le_of_ble_eq_true rfl) rfl ?_
      refine vv_iinc (j := 1) (lv' := [(0, .ref mo), (1, .int (iI (i + 1))), (2, .int (iI (ptO (f1 i.toNat)))), (3, .int (iI (ptO (f2 i.toNat))))]) F zd_MO_knowClauses_135 rfl (by decide) [1, 0, 2, 3] rfl ?_
      refine vv_goto (tgt := 61) F zd_MO_knowClauses_138 rfl ?_
      refine vv_locals (lv' := [(0, .ref mo), (1, .int (iI (i + 1)))]) [0, 1] rfl ?_
      exact ih (i + 1) fl (bP (bP S (opp (ptO (f1 i.toNat)).toNat : Int).toNat (ptO (f2 i.toNat)).toNat true) (opp (ptO (f2 i.toNat)).toNat : Int).toNat (ptO (f1 i.toNat)).toNat true) T2_2 (by omega) (⟨by omega, by rw [hst]; rfl, by have h9 := hld; rw [hst] at h9; exact h9, by rw [show (i + 1).toNat = i.toNat + 1 by omega]; exact fai_keep hI.2.2.2 h1⟩)
    · refine vv_aload_n F zd_MO_knowClauses_115 rfl 0 rfl ?_
      refine vv_callV (q0 := 0) (As := []) (rest := [.ref mo]) (wr := [ceI G fia 400 f1, ceI G sea 400 f2, ceZ G sta 25600 (fz (bP (bP S (opp (ptO (f1 i.toNat)).toNat : Int).toNat (ptO (f2 i.toNat)).toNat true) (opp (ptO (f2 i.toNat)).toNat : Int).toNat (ptO (f1 i.toNat)).toNat true)), ceI G vla 160 V]) F (cn_MO_isRound l G mo th n ac tha gk rea poa mn cha goa lea nv mm fia sea ck sta lda vla gd fl dia qua T2_2 ⟨by omega, by omega⟩) zm_MO_isRound ⟨zw_955, zs_MO_isRound⟩ zw_953 zd_MO_knowClauses_116 ⟨by decide, by decide⟩ ⟨by decide, by decide⟩ [0, 4] [1, 2, 3, 5] rfl rfl ⟨rfl, rfl, by decide⟩ rfl rfl rfl rfl (Nat.le_of_ble_eq_true rfl) (vv_then (ws' := [ceO 7 mo [.int (iI th), .int (iI n), .int (iI ac), .ref tha, .int (iI (bZ gk)), .ref rea, .ref poa, .int (iI mn), .ref cha, .ref goa, .ref lea, .int (iI nv), .int (iI mm), .ref fia, .ref sea, .int (iI (bZ ck)), .ref sta, .ref lda, .ref vla, .int (iI (bZ gd)), .int (iI fl), .ref dia, .ref qua], ceI G fia 400 f1, ceI G sea 400 f2, ceZ G sta 25600 (fz (bP (bP S (opp (ptO (f1 i.toNat)).toNat : Int).toNat (ptO (f2 i.toNat)).toNat true) (opp (ptO (f2 i.toNat)).toNat : Int).toNat (ptO (f1 i.toNat)).toNat true)), ceZ G lda 25600 (fz T2_2), ceI G vla 160 V]) (st' := [.int (iI (bZ (decide (cN (mrq T2_2) nv.toNat ≠ 0)))), .ref mo]) [4, 0, 1, 2, 5, 3] rfl rfl rfl ?_)
      refine vv_if_eq (tgt := 128) F zd_MO_knowClauses_119 rfl (bZ_rg _) (fun h2 => ?_) (fun h2 => ?_)
      · have h2 : (decide (cN (mrq T2_2) nv.toNat ≠ 0)) = false := (bZ_0 _).mp h2
        have h2 := of_decide_eq_false h2
        refine vv_aload_n F zd_MO_knowClauses_128 rfl 0 rfl ?_
        refine vv_get F zd_MO_knowClauses_129 zf_MO 0 rfl rfl 20 (by decide) zw_776 rfl ?_
        refine vv_put (v := .int (iI fl)) (ws' := [ceO 7 mo [.int (iI th), .int (iI n), .int (iI ac), .ref tha, .int (iI (bZ gk)), .ref rea, .ref poa, .int (iI mn), .ref cha, .ref goa, .ref lea, .int (iI nv), .int (iI mm), .ref fia, .ref sea, .int (iI (bZ ck)), .ref sta, .ref lda, .ref vla, .int (iI (bZ gd)), .int (iI fl), .ref dia, .ref qua], ceI G fia 400 f1, ceI G sea 400 f2, ceZ G sta 25600 (fz (bP (bP S (opp (ptO (f1 i.toNat)).toNat : Int).toNat (ptO (f2 i.toNat)).toNat true) (opp (ptO (f2 i.toNat)).toNat : Int).toNat (ptO (f1 i.toNat)).toNat true)), ceZ G lda 25600 (fz T2_2), ceI G vla 160 V]) F zd_MO_knowClauses_132 zf_MO zt_MO_ok zn_MO 0 rfl rfl 20 (by decide) zw_776 rfl rfl rfl (Nat.le_of_ble_eq_true rfl) rfl ?_
        refine vv_iinc (j := 1) (lv' := [(0, .ref mo), (1, .int (iI (i + 1))), (2, .int (iI (ptO (f1 i.toNat)))), (3, .int (iI (ptO (f2 i.toNat))))]) F zd_MO_knowClauses_135 rfl (by decide) [1, 0, 2, 3] rfl ?_
        refine vv_goto (tgt := 61) F zd_MO_knowClauses_138 rfl ?_
        refine vv_locals (lv' := [(0, .ref mo), (1, .int (iI (i + 1)))]) [0, 1] rfl ?_
        exact ih (i + 1) fl (bP (bP S (opp (ptO (f1 i.toNat)).toNat : Int).toNat (ptO (f2 i.toNat)).toNat true) (opp (ptO (f2 i.toNat)).toNat : Int).toNat (ptO (f1 i.toNat)).toNat true) T2_2 (by omega) (⟨by omega, by rw [hst]; rfl, by have h9 := hld; rw [hst] at h9; exact h9, by rw [show (i + 1).toNat = i.toNat + 1 by omega]; exact fai_no hI.2.2.2 h1 (fun q => h2 (hct.mpr q))⟩)
      · have h2 : (decide (cN (mrq T2_2) nv.toNat ≠ 0)) = true := by cases hb9 : (decide (cN (mrq T2_2) nv.toNat ≠ 0)) with | true => rfl | false => exact absurd ((bZ_0 _).mpr hb9) h2
        have h2 := of_decide_eq_true h2
        refine vv_iload_n F zd_MO_knowClauses_122 rfl 1 rfl ?_
        refine vv_iconst F zd_MO_knowClauses_123 ?_
        refine vv_iadd F zd_MO_knowClauses_124 ?_
        refine vv_goto (tgt := 132) F zd_MO_knowClauses_125 rfl ?_
        refine vv_put (v := .int (iI (i + 1))) (ws' := [ceO 7 mo [.int (iI th), .int (iI n), .int (iI ac), .ref tha, .int (iI (bZ gk)), .ref rea, .ref poa, .int (iI mn), .ref cha, .ref goa, .ref lea, .int (iI nv), .int (iI mm), .ref fia, .ref sea, .int (iI (bZ ck)), .ref sta, .ref lda, .ref vla, .int (iI (bZ gd)), .int (iI (i + 1)), .ref dia, .ref qua], ceI G fia 400 f1, ceI G sea 400 f2, ceZ G sta 25600 (fz (bP (bP S (opp (ptO (f1 i.toNat)).toNat : Int).toNat (ptO (f2 i.toNat)).toNat true) (opp (ptO (f2 i.toNat)).toNat : Int).toNat (ptO (f1 i.toNat)).toNat true)), ceZ G lda 25600 (fz T2_2), ceI G vla 160 V]) F zd_MO_knowClauses_132 zf_MO zt_MO_ok zn_MO 0 rfl rfl 20 (by decide) zw_776 rfl rfl rfl (Nat.le_of_ble_eq_true rfl) rfl ?_
        refine vv_iinc (j := 1) (lv' := [(0, .ref mo), (1, .int (iI (i + 1))), (2, .int (iI (ptO (f1 i.toNat)))), (3, .int (iI (ptO (f2 i.toNat))))]) F zd_MO_knowClauses_135 rfl (by decide) [1, 0, 2, 3] rfl ?_
        refine vv_goto (tgt := 61) F zd_MO_knowClauses_138 rfl ?_
        refine vv_locals (lv' := [(0, .ref mo), (1, .int (iI (i + 1)))]) [0, 1] rfl ?_
        exact ih (i + 1) (i + 1) (bP (bP S (opp (ptO (f1 i.toNat)).toNat : Int).toNat (ptO (f2 i.toNat)).toNat true) (opp (ptO (f2 i.toNat)).toNat : Int).toNat (ptO (f1 i.toNat)).toNat true) T2_2 (by omega) (⟨by omega, by rw [hst]; rfl, by have h9 := hld; rw [hst] at h9; exact h9, by rw [show (i + 1).toNat = i.toNat + 1 by omega]; have h9 := fai_yes hI.2.2.2 h1 (hct.mp h2); rw [show ((i.toNat : Nat) : Int) = i by omega] at h9; exact h9⟩)

set_option maxHeartbeats 4000000 in
set_option maxRecDepth 100000 in
theorem lp_MO_q3 {p : Program} {l : Launch} {e : Env} {s : State} {m : MethodId} {args : Array Value} {below : List Frame} {meth : Method} {c : Code} {A : Nat → Prop} {Q : State → Prop} {G : vv_G} (F : vv_F p s m args meth c zc_MO_knowClauses "ClauseGraphModel" "knowClauses" none G A 4) (mo : Nat) (th : Int) (n : Int) (ac : Int) (tha : Nat) (gk : Bool) (rea : Nat) (poa : Nat) (mn : Int) (cha : Nat) (goa : Nat) (lea : Nat) (nv : Int) (mm : Int) (fia : Nat) (sea : Nat) (ck : Bool) (sta : Nat) (lda : Nat) (vla : Nat) (gd : Bool) (fl : Int) (dia : Nat) (qua : Nat) (f1 : Nat → Int) (f2 : Nat → Int) (S : Nat → Nat → Bool) (Ld : Nat → Nat → Bool) 
    (k : ∀ (V : Nat → Int), (0 ≤ (80 : Int) ∧ ∀ j : Nat, (j : Int) < (80 : Int) → V j = -1) → vv_V p l e { frames := 2, cells := 0, slots := 0, locals := 45 } s m args below meth c G A 4 Q 178 [(0, .ref mo), (1, .int (iI (80 : Int)))] [] [ceO 7 mo [.int (iI th), .int (iI n), .int (iI ac), .ref tha, .int (iI (bZ gk)), .ref rea, .ref poa, .int (iI mn), .ref cha, .ref goa, .ref lea, .int (iI nv), .int (iI mm), .ref fia, .ref sea, .int (iI (bZ ck)), .ref sta, .ref lda, .ref vla, .int (iI (bZ gd)), .int (iI fl), .ref dia, .ref qua], ceI G fia 400 f1, ceI G sea 400 f2, ceZ G sta 25600 (fz S), ceZ G lda 25600 (fz Ld), ceI G vla 160 V] 0 0)  :
    ∀ (d : Nat) (i : Int) (V : Nat → Int), i + (d : Int) = (80 : Int) → (0 ≤ i ∧ ∀ j : Nat, (j : Int) < i → V j = -1) → vv_V p l e { frames := 2, cells := 0, slots := 0, locals := 45 } s m args below meth c G A 4 Q 159 [(0, .ref mo), (1, .int (iI i))] [] [ceO 7 mo [.int (iI th), .int (iI n), .int (iI ac), .ref tha, .int (iI (bZ gk)), .ref rea, .ref poa, .int (iI mn), .ref cha, .ref goa, .ref lea, .int (iI nv), .int (iI mm), .ref fia, .ref sea, .int (iI (bZ ck)), .ref sta, .ref lda, .ref vla, .int (iI (bZ gd)), .int (iI fl), .ref dia, .ref qua], ceI G fia 400 f1, ceI G sea 400 f2, ceZ G sta 25600 (fz S), ceZ G lda 25600 (fz Ld), ceI G vla 160 V] 0 0 := by
  intro d
  induction d with
  | zero =>
    intro i V hd hI
    have hz : i = (80 : Int) := by omega
    subst hz
    refine vv_iload_n F zd_MO_knowClauses_159 rfl 1 rfl ?_
    refine vv_bipush F zd_MO_knowClauses_160 (by decide) ?_
    refine vv_icmp_ge (tgt := 178) F zd_MO_knowClauses_162 rfl (by first | exact ⟨by omega, by omega⟩) (by decide) (fun _ => ?_) (fun h9 => absurd h9 (by omega))
    exact k V hI
  | succ d ih =>
    intro i V hd hI
    refine vv_iload_n F zd_MO_knowClauses_159 rfl 1 rfl ?_
    refine vv_bipush F zd_MO_knowClauses_160 (by decide) ?_
    refine vv_icmp_ge (tgt := 178) F zd_MO_knowClauses_162 rfl (by first | exact ⟨by omega, by omega⟩) (by decide) (fun h9 => absurd h9 (by omega)) (fun _ => ?_)
    refine vv_aload_n F zd_MO_knowClauses_165 rfl 0 rfl ?_
    refine vv_get F zd_MO_knowClauses_166 zf_MO 0 rfl rfl 18 (by decide) zw_774 rfl ?_
    refine vv_iload_n F zd_MO_knowClauses_169 rfl 1 rfl ?_
    refine vv_iconst F zd_MO_knowClauses_170 ?_
    refine vv_iast (x := (-1)) (ws' := [ceO 7 mo [.int (iI th), .int (iI n), .int (iI ac), .ref tha, .int (iI (bZ gk)), .ref rea, .ref poa, .int (iI mn), .ref cha, .ref goa, .ref lea, .int (iI nv), .int (iI mm), .ref fia, .ref sea, .int (iI (bZ ck)), .ref sta, .ref lda, .ref vla, .int (iI (bZ gd)), .int (iI fl), .ref dia, .ref qua], ceI G fia 400 f1, ceI G sea 400 f2, ceZ G sta 25600 (fz S), ceZ G lda 25600 (fz Ld), ceI G vla 160 (va_up V i.toNat (-1))]) F zd_MO_knowClauses_171 5 rfl ⟨by omega, by omega⟩ (by decide) rfl ?_
    refine vv_iinc (j := 1) (lv' := [(0, .ref mo), (1, .int (iI (i + 1)))]) F zd_MO_knowClauses_172 rfl (by decide) [1, 0] rfl ?_
    refine vv_goto (tgt := 159) F zd_MO_knowClauses_175 rfl ?_
    exact ih (i + 1) (va_up V i.toNat (-1)) (by omega) (⟨by omega, fun j hj => by
      by_cases z : j = i.toNat
      · rw [z, va_up_self]
      · rw [va_up_ne _ _ z]; exact hI.2 j (by omega)⟩)

set_option maxHeartbeats 4000000 in
set_option maxRecDepth 100000 in
theorem lp_MO_q4 {p : Program} {l : Launch} {e : Env} {s : State} {m : MethodId} {args : Array Value} {below : List Frame} {meth : Method} {c : Code} {A : Nat → Prop} {Q : State → Prop} {G : vv_G} (F : vv_F p s m args meth c zc_MO_knowClauses "ClauseGraphModel" "knowClauses" none G A 4) (mo : Nat) (th : Int) (n : Int) (ac : Int) (tha : Nat) (gk : Bool) (rea : Nat) (poa : Nat) (mn : Int) (cha : Nat) (goa : Nat) (lea : Nat) (nv : Int) (mm : Int) (fia : Nat) (sea : Nat) (ck : Bool) (sta : Nat) (lda : Nat) (vla : Nat) (gd : Bool) (fl : Int) (dia : Nat) (qua : Nat) (f1 : Nat → Int) (f2 : Nat → Int) (S : Nat → Nat → Bool) (Ld : Nat → Nat → Bool) (i : Int) (lt : Int) (V0 : Nat → Int) (hv : 1 ≤ nv ∧ nv ≤ 80) (hl : 0 ≤ lt ∧ lt < 160)
    (k : ∀ (V : Nat → Int), (0 ≤ (2 * nv) ∧ ∀ y : Nat, y < nv.toNat → V y = mvI Ld lt.toNat V0 (2 * nv).toNat y) → vv_V p l e { frames := 2, cells := 0, slots := 0, locals := 45 } s m args below meth c G A 4 Q 291 [(0, .ref mo), (1, .int (iI i)), (2, .int (iI lt)), (3, .int (iI (2 * nv)))] [] [ceO 7 mo [.int (iI th), .int (iI n), .int (iI ac), .ref tha, .int (iI (bZ gk)), .ref rea, .ref poa, .int (iI mn), .ref cha, .ref goa, .ref lea, .int (iI nv), .int (iI mm), .ref fia, .ref sea, .int (iI (bZ ck)), .ref sta, .ref lda, .ref vla, .int (iI (bZ gd)), .int (iI fl), .ref dia, .ref qua], ceI G fia 400 f1, ceI G sea 400 f2, ceZ G sta 25600 (fz S), ceZ G lda 25600 (fz Ld), ceI G vla 160 V] 0 0)  :
    ∀ (d : Nat) (o : Int) (V : Nat → Int), o + (d : Int) = (2 * nv) → (0 ≤ o ∧ ∀ y : Nat, y < nv.toNat → V y = mvI Ld lt.toNat V0 o.toNat y) → vv_V p l e { frames := 2, cells := 0, slots := 0, locals := 45 } s m args below meth c G A 4 Q 238 [(0, .ref mo), (1, .int (iI i)), (2, .int (iI lt)), (3, .int (iI o))] [] [ceO 7 mo [.int (iI th), .int (iI n), .int (iI ac), .ref tha, .int (iI (bZ gk)), .ref rea, .ref poa, .int (iI mn), .ref cha, .ref goa, .ref lea, .int (iI nv), .int (iI mm), .ref fia, .ref sea, .int (iI (bZ ck)), .ref sta, .ref lda, .ref vla, .int (iI (bZ gd)), .int (iI fl), .ref dia, .ref qua], ceI G fia 400 f1, ceI G sea 400 f2, ceZ G sta 25600 (fz S), ceZ G lda 25600 (fz Ld), ceI G vla 160 V] 0 0 := by
  intro d
  induction d with
  | zero =>
    intro o V hd hI
    have hz : o = (2 * nv) := by omega
    subst hz
    refine vv_iload_n F zd_MO_knowClauses_238 rfl 3 rfl ?_
    refine vv_iconst F zd_MO_knowClauses_239 ?_
    refine vv_aload_n F zd_MO_knowClauses_240 rfl 0 rfl ?_
    refine vv_get F zd_MO_knowClauses_241 zf_MO 0 rfl rfl 11 (by decide) zw_767 rfl ?_
    refine vv_imul F zd_MO_knowClauses_244 ?_
    refine vv_icmp_ge (tgt := 291) F zd_MO_knowClauses_245 rfl (by first | exact ⟨by omega, by omega⟩) (by first | exact ⟨by omega, by omega⟩) (fun _ => ?_) (fun h9 => absurd h9 (by omega))
    exact k V hI
  | succ d ih =>
    intro o V hd hI
    refine vv_iload_n F zd_MO_knowClauses_238 rfl 3 rfl ?_
    refine vv_iconst F zd_MO_knowClauses_239 ?_
    refine vv_aload_n F zd_MO_knowClauses_240 rfl 0 rfl ?_
    refine vv_get F zd_MO_knowClauses_241 zf_MO 0 rfl rfl 11 (by decide) zw_767 rfl ?_
    refine vv_imul F zd_MO_knowClauses_244 ?_
    refine vv_icmp_ge (tgt := 291) F zd_MO_knowClauses_245 rfl (by first | exact ⟨by omega, by omega⟩) (by first | exact ⟨by omega, by omega⟩) (fun h9 => absurd h9 (by omega)) (fun _ => ?_)
    refine vv_aload_n F zd_MO_knowClauses_248 rfl 0 rfl ?_
    refine vv_get F zd_MO_knowClauses_249 zf_MO 0 rfl rfl 18 (by decide) zw_774 rfl ?_
    refine vv_iload_n F zd_MO_knowClauses_252 rfl 3 rfl ?_
    refine vv_iconst F zd_MO_knowClauses_253 ?_
    refine vv_idiv F zd_MO_knowClauses_254 (by first | exact ⟨by omega, by omega⟩) (by decide) (by omega) (by omega) ?_
    refine vv_aload_n F zd_MO_knowClauses_255 rfl 0 rfl ?_
    refine vv_get F zd_MO_knowClauses_256 zf_MO 0 rfl rfl 17 (by decide) zw_773 rfl ?_
    refine vv_iload_n F zd_MO_knowClauses_259 rfl 2 rfl ?_
    refine vv_iload_n F zd_MO_knowClauses_260 rfl 3 rfl ?_
    refine vv_callS (As := [.int (iI lt), .int (iI o)]) (rest := [.ref lda, .int (iI (o / 2)), .ref vla]) (wr := [ceO 7 mo [.int (iI th), .int (iI n), .int (iI ac), .ref tha, .int (iI (bZ gk)), .ref rea, .ref poa, .int (iI mn), .ref cha, .ref goa, .ref lea, .int (iI nv), .int (iI mm), .ref fia, .ref sea, .int (iI (bZ ck)), .ref sta, .ref lda, .ref vla, .int (iI (bZ gd)), .int (iI fl), .ref dia, .ref qua], ceI G fia 400 f1, ceI G sea 400 f2, ceZ G sta 25600 (fz S), ceZ G lda 25600 (fz Ld), ceI G vla 160 V]) F (cn_MO_cell l G lt o) zm_MO_cell zw_844 zw_843 zd_MO_knowClauses_261 ⟨by decide, by decide⟩ ⟨by decide, by decide⟩ [] [0, 1, 2, 3, 4, 5] rfl rfl ⟨rfl, rfl, by decide⟩ rfl rfl (Nat.le_of_ble_eq_true rfl) (vv_then (ws' := [ceO 7 mo [.int (iI th), .int (iI n), .int (iI ac), .ref tha, .int (iI (bZ gk)), .ref rea, .ref poa, .int (iI mn), .ref cha, .ref goa, .ref lea, .int (iI nv), .int (iI mm), .ref fia, .ref sea, .int (iI (bZ ck)), .ref sta, .ref lda, .ref vla, .int (iI (bZ gd)), .int (iI fl), .ref dia, .ref qua], ceI G fia 400 f1, ceI G sea 400 f2, ceZ G sta 25600 (fz S), ceZ G lda 25600 (fz Ld), ceI G vla 160 V]) (st' := [.int (iI (160 * lt + o)), .ref lda, .int (iI (o / 2)), .ref vla]) [0, 1, 2, 3, 4, 5] rfl rfl rfl ?_)
    refine vv_zald F zd_MO_knowClauses_264 4 rfl ⟨by omega, by omega⟩ (by decide) ?_
    refine vv_ti (congrArg bZ (fzI (B := Ld) (u := lt) (v := o) (by omega) ⟨by omega, by omega⟩)) ?_
    refine vv_if_eq (tgt := 276) F zd_MO_knowClauses_265 rfl (bZ_rg _) (fun h1 => ?_) (fun h1 => ?_)
    · have h1 : (Ld lt.toNat o.toNat) = false := (bZ_0 _).mp h1
      refine vv_aload_n F zd_MO_knowClauses_276 rfl 0 rfl ?_
      refine vv_get F zd_MO_knowClauses_277 zf_MO 0 rfl rfl 18 (by decide) zw_774 rfl ?_
      refine vv_iload_n F zd_MO_knowClauses_280 rfl 3 rfl ?_
      refine vv_iconst F zd_MO_knowClauses_281 ?_
      refine vv_idiv F zd_MO_knowClauses_282 (by first | exact ⟨by omega, by omega⟩) (by decide) (by omega) (by omega) ?_
      refine vv_iald F zd_MO_knowClauses_283 5 rfl ⟨by omega, by omega⟩ (by decide) ?_
      refine vv_iast (x := V (o / 2).toNat) (ws' := [ceO 7 mo [.int (iI th), .int (iI n), .int (iI ac), .ref tha, .int (iI (bZ gk)), .ref rea, .ref poa, .int (iI mn), .ref cha, .ref goa, .ref lea, .int (iI nv), .int (iI mm), .ref fia, .ref sea, .int (iI (bZ ck)), .ref sta, .ref lda, .ref vla, .int (iI (bZ gd)), .int (iI fl), .ref dia, .ref qua], ceI G fia 400 f1, ceI G sea 400 f2, ceZ G sta 25600 (fz S), ceZ G lda 25600 (fz Ld), ceI G vla 160 (va_up V (o / 2).toNat (V (o / 2).toNat))]) F zd_MO_knowClauses_284 5 rfl ⟨by omega, by omega⟩ (by decide) rfl ?_
      refine vv_iinc (j := 3) (lv' := [(0, .ref mo), (1, .int (iI i)), (2, .int (iI lt)), (3, .int (iI (o + 1)))]) F zd_MO_knowClauses_285 rfl (by decide) [1, 2, 3, 0] rfl ?_
      refine vv_goto (tgt := 238) F zd_MO_knowClauses_288 rfl ?_
      exact ih (o + 1) (va_up V (o / 2).toNat (V (o / 2).toNat)) (by omega) (⟨by omega, fun y hy => by
      rw [show (o + 1).toNat = o.toNat + 1 by omega, mvI_no h1, ← hI.2 y hy]
      by_cases z : y = (o / 2).toNat
      · rw [z, va_up_self]
      · rw [va_up_ne _ _ z]⟩)
    · have h1 : (Ld lt.toNat o.toNat) = true := by cases hb9 : (Ld lt.toNat o.toNat) with | true => rfl | false => exact absurd ((bZ_0 _).mpr hb9) h1
      refine vv_iconst F zd_MO_knowClauses_268 ?_
      refine vv_iload_n F zd_MO_knowClauses_269 rfl 3 rfl ?_
      refine vv_iconst F zd_MO_knowClauses_270 ?_
      refine vv_irem F zd_MO_knowClauses_271 (by first | exact ⟨by omega, by omega⟩) (by decide) (by omega) (by omega) ?_
      refine vv_isub F zd_MO_knowClauses_272 ?_
      refine vv_goto (tgt := 284) F zd_MO_knowClauses_273 rfl ?_
      refine vv_iast (x := 1 - (o % 2)) (ws' := [ceO 7 mo [.int (iI th), .int (iI n), .int (iI ac), .ref tha, .int (iI (bZ gk)), .ref rea, .ref poa, .int (iI mn), .ref cha, .ref goa, .ref lea, .int (iI nv), .int (iI mm), .ref fia, .ref sea, .int (iI (bZ ck)), .ref sta, .ref lda, .ref vla, .int (iI (bZ gd)), .int (iI fl), .ref dia, .ref qua], ceI G fia 400 f1, ceI G sea 400 f2, ceZ G sta 25600 (fz S), ceZ G lda 25600 (fz Ld), ceI G vla 160 (va_up V (o / 2).toNat (1 - (o % 2)))]) F zd_MO_knowClauses_284 5 rfl ⟨by omega, by omega⟩ (by decide) rfl ?_
      refine vv_iinc (j := 3) (lv' := [(0, .ref mo), (1, .int (iI i)), (2, .int (iI lt)), (3, .int (iI (o + 1)))]) F zd_MO_knowClauses_285 rfl (by decide) [1, 2, 3, 0] rfl ?_
      refine vv_goto (tgt := 238) F zd_MO_knowClauses_288 rfl ?_
      exact ih (o + 1) (va_up V (o / 2).toNat (1 - (o % 2))) (by omega) (⟨by omega, fun y hy => by
      rw [show (o + 1).toNat = o.toNat + 1 by omega, mvI_yes h1]
      by_cases z : y = (o / 2).toNat
      · rw [z, va_up_self, if_pos (by omega)]; omega
      · rw [va_up_ne _ _ z, if_neg (by omega)]; exact hI.2 y hy⟩)

theorem mvS_rg {Ld : Nat → Nat → Bool} {nv : Nat} : ∀ t v, -1 ≤ mvS Ld nv t v ∧ mvS Ld nv t v ≤ 1
  | 0, _ => by show (-1 : Int) ≤ -1 ∧ (-1 : Int) ≤ 1; omega
  | t + 1, v => by
    have h := mvS_rg (Ld := Ld) (nv := nv) t v
    show -1 ≤ (if mvS Ld nv t t = -1 then mvI Ld (mli Ld t) (mvS Ld nv t) (2 * nv) else mvS Ld nv t) v ∧ (if mvS Ld nv t t = -1 then mvI Ld (mli Ld t) (mvS Ld nv t) (2 * nv) else mvS Ld nv t) v ≤ 1
    split
    · unfold mvI; split
      · omega
      · split <;> omega
    · exact h

set_option maxHeartbeats 4000000 in
set_option maxRecDepth 100000 in
theorem lp_MO_q5 {p : Program} {l : Launch} {e : Env} {s : State} {m : MethodId} {args : Array Value} {below : List Frame} {meth : Method} {c : Code} {A : Nat → Prop} {Q : State → Prop} {G : vv_G} (F : vv_F p s m args meth c zc_MO_knowClauses "ClauseGraphModel" "knowClauses" none G A 4) (mo : Nat) (th : Int) (n : Int) (ac : Int) (tha : Nat) (gk : Bool) (rea : Nat) (poa : Nat) (mn : Int) (cha : Nat) (goa : Nat) (lea : Nat) (nv : Int) (mm : Int) (fia : Nat) (sea : Nat) (ck : Bool) (sta : Nat) (lda : Nat) (vla : Nat) (fl : Int) (dia : Nat) (qua : Nat) (f1 : Nat → Int) (f2 : Nat → Int) (S : Nat → Nat → Bool) (Ld : Nat → Nat → Bool) (hv : 1 ≤ nv ∧ nv ≤ 80)
    (k : ∀ (V : Nat → Int), (0 ≤ nv ∧ ∀ y : Nat, y < nv.toNat → V y = mvS Ld nv.toNat nv.toNat y) → vv_V p l e { frames := 2, cells := 0, slots := 0, locals := 45 } s m args below meth c G A 4 Q 297 [(0, .ref mo), (1, .int (iI nv))] [] [ceO 7 mo [.int (iI th), .int (iI n), .int (iI ac), .ref tha, .int (iI (bZ gk)), .ref rea, .ref poa, .int (iI mn), .ref cha, .ref goa, .ref lea, .int (iI nv), .int (iI mm), .ref fia, .ref sea, .int (iI (bZ ck)), .ref sta, .ref lda, .ref vla, .int (iI (bZ true)), .int (iI fl), .ref dia, .ref qua], ceI G fia 400 f1, ceI G sea 400 f2, ceZ G sta 25600 (fz S), ceZ G lda 25600 (fz Ld), ceI G vla 160 V] 0 0)  :
    ∀ (d : Nat) (i : Int) (V : Nat → Int), i + (d : Int) = nv → (0 ≤ i ∧ ∀ y : Nat, y < nv.toNat → V y = mvS Ld nv.toNat i.toNat y) → vv_V p l e { frames := 2, cells := 0, slots := 0, locals := 45 } s m args below meth c G A 4 Q 180 [(0, .ref mo), (1, .int (iI i))] [] [ceO 7 mo [.int (iI th), .int (iI n), .int (iI ac), .ref tha, .int (iI (bZ gk)), .ref rea, .ref poa, .int (iI mn), .ref cha, .ref goa, .ref lea, .int (iI nv), .int (iI mm), .ref fia, .ref sea, .int (iI (bZ ck)), .ref sta, .ref lda, .ref vla, .int (iI (bZ true)), .int (iI fl), .ref dia, .ref qua], ceI G fia 400 f1, ceI G sea 400 f2, ceZ G sta 25600 (fz S), ceZ G lda 25600 (fz Ld), ceI G vla 160 V] 0 0 := by
  intro d
  induction d with
  | zero =>
    intro i V hd hI
    have hz : i = nv := by omega
    subst hz
    refine vv_iload_n F zd_MO_knowClauses_180 rfl 1 rfl ?_
    refine vv_aload_n F zd_MO_knowClauses_181 rfl 0 rfl ?_
    refine vv_get F zd_MO_knowClauses_182 zf_MO 0 rfl rfl 11 (by decide) zw_767 rfl ?_
    refine vv_icmp_ge (tgt := 297) F zd_MO_knowClauses_185 rfl (by first | exact ⟨by omega, by omega⟩) (by first | exact ⟨by omega, by omega⟩) (fun _ => ?_) (fun h9 => absurd h9 (by omega))
    exact k V hI
  | succ d ih =>
    intro i V hd hI
    have q8 := hI.2 i.toNat (by omega)
    have q9 := mvS_rg (Ld := Ld) (nv := nv.toNat) i.toNat i.toNat
    refine vv_iload_n F zd_MO_knowClauses_180 rfl 1 rfl ?_
    refine vv_aload_n F zd_MO_knowClauses_181 rfl 0 rfl ?_
    refine vv_get F zd_MO_knowClauses_182 zf_MO 0 rfl rfl 11 (by decide) zw_767 rfl ?_
    refine vv_icmp_ge (tgt := 297) F zd_MO_knowClauses_185 rfl (by first | exact ⟨by omega, by omega⟩) (by first | exact ⟨by omega, by omega⟩) (fun h9 => absurd h9 (by omega)) (fun _ => ?_)
    refine vv_aload_n F zd_MO_knowClauses_188 rfl 0 rfl ?_
    refine vv_get F zd_MO_knowClauses_189 zf_MO 0 rfl rfl 19 (by decide) zw_775 rfl ?_
    refine vv_if_eq (tgt := 297) F zd_MO_knowClauses_192 rfl (bZ_rg _) (fun h9 => absurd h9 (by decide)) (fun _ => ?_)
    refine vv_aload_n F zd_MO_knowClauses_195 rfl 0 rfl ?_
    refine vv_get F zd_MO_knowClauses_196 zf_MO 0 rfl rfl 18 (by decide) zw_774 rfl ?_
    refine vv_iload_n F zd_MO_knowClauses_199 rfl 1 rfl ?_
    refine vv_iald F zd_MO_knowClauses_200 5 rfl ⟨by omega, by omega⟩ (by decide) ?_
    refine vv_iconst F zd_MO_knowClauses_201 ?_
    refine vv_icmp_ne (tgt := 291) F zd_MO_knowClauses_202 rfl (by first | exact ⟨by omega, by omega⟩) (by decide) (fun h1 => ?_) (fun h1 => ?_)
    · refine vv_iinc (j := 1) (lv' := [(0, .ref mo), (1, .int (iI (i + 1)))]) F zd_MO_knowClauses_291 rfl (by decide) [1, 0] rfl ?_
      refine vv_goto (tgt := 180) F zd_MO_knowClauses_294 rfl ?_
      exact ih (i + 1) V (by omega) (⟨by omega, fun y hy => by
      rw [show (i + 1).toNat = i.toNat + 1 by omega]
      show V y = (if mvS Ld nv.toNat i.toNat i.toNat = -1 then mvI Ld (mli Ld i.toNat) (mvS Ld nv.toNat i.toNat) (2 * nv.toNat) else mvS Ld nv.toNat i.toNat) y
      rw [← hI.2 i.toNat (by omega), if_neg (by omega)]; exact hI.2 y hy⟩)
    · refine vv_aload_n F zd_MO_knowClauses_205 rfl 0 rfl ?_
      refine vv_get F zd_MO_knowClauses_206 zf_MO 0 rfl rfl 17 (by decide) zw_773 rfl ?_
      refine vv_iconst F zd_MO_knowClauses_209 ?_
      refine vv_iload_n F zd_MO_knowClauses_210 rfl 1 rfl ?_
      refine vv_imul F zd_MO_knowClauses_211 ?_
      refine vv_iconst F zd_MO_knowClauses_212 ?_
      refine vv_iadd F zd_MO_knowClauses_213 ?_
      refine vv_iconst F zd_MO_knowClauses_214 ?_
      refine vv_iload_n F zd_MO_knowClauses_215 rfl 1 rfl ?_
      refine vv_imul F zd_MO_knowClauses_216 ?_
      refine vv_callS (As := [.int (iI ((2 * i) + 1)), .int (iI (2 * i))]) (rest := [.ref lda]) (wr := [ceO 7 mo [.int (iI th), .int (iI n), .int (iI ac), .ref tha, .int (iI (bZ gk)), .ref rea, .ref poa, .int (iI mn), .ref cha, .ref goa, .ref lea, .int (iI nv), .int (iI mm), .ref fia, .ref sea, .int (iI (bZ ck)), .ref sta, .ref lda, .ref vla, .int (iI (bZ true)), .int (iI fl), .ref dia, .ref qua], ceI G fia 400 f1, ceI G sea 400 f2, ceZ G sta 25600 (fz S), ceZ G lda 25600 (fz Ld), ceI G vla 160 V]) F (cn_MO_cell l G ((2 * i) + 1) (2 * i)) zm_MO_cell zw_844 zw_843 zd_MO_knowClauses_217 ⟨by decide, by decide⟩ ⟨by decide, by decide⟩ [] [0, 1, 2, 3, 4, 5] rfl rfl ⟨rfl, rfl, by decide⟩ rfl rfl (Nat.le_of_ble_eq_true rfl) (vv_then (ws' := [ceO 7 mo [.int (iI th), .int (iI n), .int (iI ac), .ref tha, .int (iI (bZ gk)), .ref rea, .ref poa, .int (iI mn), .ref cha, .ref goa, .ref lea, .int (iI nv), .int (iI mm), .ref fia, .ref sea, .int (iI (bZ ck)), .ref sta, .ref lda, .ref vla, .int (iI (bZ true)), .int (iI fl), .ref dia, .ref qua], ceI G fia 400 f1, ceI G sea 400 f2, ceZ G sta 25600 (fz S), ceZ G lda 25600 (fz Ld), ceI G vla 160 V]) (st' := [.int (iI (160 * ((2 * i) + 1) + (2 * i))), .ref lda]) [0, 1, 2, 3, 4, 5] rfl rfl rfl ?_)
      refine vv_zald F zd_MO_knowClauses_220 4 rfl ⟨by omega, by omega⟩ (by decide) ?_
      refine vv_ti (congrArg bZ (fzI (B := Ld) (u := (2 * i) + 1) (v := 2 * i) (by omega) ⟨by omega, by omega⟩)) ?_
      refine vv_if_eq (tgt := 230) F zd_MO_knowClauses_221 rfl (bZ_rg _) (fun h2 => ?_) (fun h2 => ?_)
      · have h2 : (Ld ((2 * i) + 1).toNat (2 * i).toNat) = false := (bZ_0 _).mp h2
        refine vv_iconst F zd_MO_knowClauses_230 ?_
        refine vv_iload_n F zd_MO_knowClauses_231 rfl 1 rfl ?_
        refine vv_imul F zd_MO_knowClauses_232 ?_
        refine vv_iconst F zd_MO_knowClauses_233 ?_
        refine vv_iadd F zd_MO_knowClauses_234 ?_
        refine vv_istore_n (lv' := [(0, .ref mo), (1, .int (iI i)), (2, .int (iI ((2 * i) + 1)))]) F zd_MO_knowClauses_235 rfl (by decide) [1, 2, 0] rfl ?_
        refine vv_iconst F zd_MO_knowClauses_236 ?_
        refine vv_istore_n (lv' := [(0, .ref mo), (1, .int (iI i)), (2, .int (iI ((2 * i) + 1))), (3, .int (iI 0))]) F zd_MO_knowClauses_237 rfl (by decide) [1, 2, 3, 0] rfl ?_
        refine lp_MO_q4 F mo th n ac tha gk rea poa mn cha goa lea nv mm fia sea ck sta lda vla true fl dia qua f1 f2 S Ld i ((2 * i) + 1) V hv ⟨by omega, by omega⟩ (fun V9 hJ => ?_) (2 * nv).toNat 0 V (by omega) ⟨by omega, fun y hy => mvI_0.symm⟩
        refine vv_iinc (j := 1) (lv' := [(0, .ref mo), (1, .int (iI (i + 1))), (2, .int (iI ((2 * i) + 1))), (3, .int (iI (2 * nv)))]) F zd_MO_knowClauses_291 rfl (by decide) [1, 0, 2, 3] rfl ?_
        refine vv_goto (tgt := 180) F zd_MO_knowClauses_294 rfl ?_
        refine vv_locals (lv' := [(0, .ref mo), (1, .int (iI (i + 1)))]) [0, 1] rfl ?_
        exact ih (i + 1) V9 (by omega) (⟨by omega, fun y hy => by
      rw [show (i + 1).toNat = i.toNat + 1 by omega]
      show V9 y = (if mvS Ld nv.toNat i.toNat i.toNat = -1 then mvI Ld (mli Ld i.toNat) (mvS Ld nv.toNat i.toNat) (2 * nv.toNat) else mvS Ld nv.toNat i.toNat) y
      have hm9 : mli Ld i.toNat = (2 * i + 1).toNat := by
        unfold mli
        have h9 := h2
        rw [show (2 * i + 1).toNat = 2 * i.toNat + 1 by omega, show (2 * i).toNat = 2 * i.toNat by omega] at h9
        rw [h9]; rw [if_neg (by decide)]; omega
      rw [← hI.2 i.toNat (by omega), if_pos (by omega), hm9, ← mvI_congr (V := V) (hI.2 y hy), hJ.2 y hy, show (2 * nv).toNat = 2 * nv.toNat by omega]⟩)
      · have h2 : (Ld ((2 * i) + 1).toNat (2 * i).toNat) = true := by cases hb9 : (Ld ((2 * i) + 1).toNat (2 * i).toNat) with | true => rfl | false => exact absurd ((bZ_0 _).mpr hb9) h2
        refine vv_iconst F zd_MO_knowClauses_224 ?_
        refine vv_iload_n F zd_MO_knowClauses_225 rfl 1 rfl ?_
        refine vv_imul F zd_MO_knowClauses_226 ?_
        refine vv_goto (tgt := 235) F zd_MO_knowClauses_227 rfl ?_
        refine vv_istore_n (lv' := [(0, .ref mo), (1, .int (iI i)), (2, .int (iI (2 * i)))]) F zd_MO_knowClauses_235 rfl (by decide) [1, 2, 0] rfl ?_
        refine vv_iconst F zd_MO_knowClauses_236 ?_
        refine vv_istore_n (lv' := [(0, .ref mo), (1, .int (iI i)), (2, .int (iI (2 * i))), (3, .int (iI 0))]) F zd_MO_knowClauses_237 rfl (by decide) [1, 2, 3, 0] rfl ?_
        refine lp_MO_q4 F mo th n ac tha gk rea poa mn cha goa lea nv mm fia sea ck sta lda vla true fl dia qua f1 f2 S Ld i (2 * i) V hv ⟨by omega, by omega⟩ (fun V9 hJ => ?_) (2 * nv).toNat 0 V (by omega) ⟨by omega, fun y hy => mvI_0.symm⟩
        refine vv_iinc (j := 1) (lv' := [(0, .ref mo), (1, .int (iI (i + 1))), (2, .int (iI (2 * i))), (3, .int (iI (2 * nv)))]) F zd_MO_knowClauses_291 rfl (by decide) [1, 0, 2, 3] rfl ?_
        refine vv_goto (tgt := 180) F zd_MO_knowClauses_294 rfl ?_
        refine vv_locals (lv' := [(0, .ref mo), (1, .int (iI (i + 1)))]) [0, 1] rfl ?_
        exact ih (i + 1) V9 (by omega) (⟨by omega, fun y hy => by
      rw [show (i + 1).toNat = i.toNat + 1 by omega]
      show V9 y = (if mvS Ld nv.toNat i.toNat i.toNat = -1 then mvI Ld (mli Ld i.toNat) (mvS Ld nv.toNat i.toNat) (2 * nv.toNat) else mvS Ld nv.toNat i.toNat) y
      have hm9 : mli Ld i.toNat = (2 * i).toNat := by
        unfold mli
        have h9 := h2
        rw [show (2 * i + 1).toNat = 2 * i.toNat + 1 by omega, show (2 * i).toNat = 2 * i.toNat by omega] at h9
        rw [h9]; rw [if_pos rfl]; omega
      rw [← hI.2 i.toNat (by omega), if_pos (by omega), hm9, ← mvI_congr (V := V) (hI.2 y hy), hJ.2 y hy, show (2 * nv).toNat = 2 * nv.toNat by omega]⟩)

set_option maxHeartbeats 4000000 in
set_option maxRecDepth 100000 in
theorem cn_MO_knowClauses (l : Launch) (G : vv_G) (mo : Nat) (th : Int) (n : Int) (ac : Int) (tha : Nat) (gk : Bool) (rea : Nat) (poa : Nat) (mn : Int) (cha : Nat) (goa : Nat) (lea : Nat) (nv : Int) (mm : Int) (fia : Nat) (sea : Nat) (ck : Bool) (sta : Nat) (lda : Nat) (vla : Nat) (gd : Bool) (fl : Int) (dia : Nat) (qua : Nat) (f1 : Nat → Int) (f2 : Nat → Int) (S : Nat → Nat → Bool) (Ld : Nat → Nat → Bool) (V : Nat → Int) (hv : 1 ≤ nv ∧ nv ≤ 80) (hm : 0 ≤ mm ∧ mm ≤ 400) (hf : ∀ j : Nat, (j : Int) < mm → ¬ nli nv (f1 j) ∧ ¬ nli nv (f2 j)) (hc : ck = true → mC nv mm f1 f2 S Ld V gd fl) :
    vv_C l zy_MO_knowClauses zc_MO_knowClauses 4 none { frames := 2, cells := 0, slots := 0, locals := 45 } G [.ref mo] [ceO 7 mo [.int (iI th), .int (iI n), .int (iI ac), .ref tha, .int (iI (bZ gk)), .ref rea, .ref poa, .int (iI mn), .ref cha, .ref goa, .ref lea, .int (iI nv), .int (iI mm), .ref fia, .ref sea, .int (iI (bZ ck)), .ref sta, .ref lda, .ref vla, .int (iI (bZ gd)), .int (iI fl), .ref dia, .ref qua], ceI G fia 400 f1, ceI G sea 400 f2, ceZ G sta 25600 (fz S), ceZ G lda 25600 (fz Ld), ceI G vla 160 V] (fun v7 w7 => ∃ (S2 : Nat → Nat → Bool) (Ld2 : Nat → Nat → Bool) (V2 : Nat → Int) (gd2 : Bool) (fl2 : Int), (mC nv mm f1 f2 S2 Ld2 V2 gd2 fl2) ∧ v7 = none ∧ w7 = [ceO 7 mo [.int (iI th), .int (iI n), .int (iI ac), .ref tha, .int (iI (bZ gk)), .ref rea, .ref poa, .int (iI mn), .ref cha, .ref goa, .ref lea, .int (iI nv), .int (iI mm), .ref fia, .ref sea, .int (iI (bZ true)), .ref sta, .ref lda, .ref vla, .int (iI (bZ gd2)), .int (iI fl2), .ref dia, .ref qua], ceI G fia 400 f1, ceI G sea 400 f2, ceZ G sta 25600 (fz S2), ceZ G lda 25600 (fz Ld2), ceI G vla 160 V2]) := by
  refine vv_met (by decide +kernel) (Nat.le_of_ble_eq_true rfl) rfl ?_
  intro p e s m args below meth c A F
  refine vv_aload_n F zd_MO_knowClauses_0 rfl 0 rfl ?_
  refine vv_get F zd_MO_knowClauses_1 zf_MO 0 rfl rfl 15 (by decide) zw_771 rfl ?_
  refine vv_if_eq (tgt := 8) F zd_MO_knowClauses_4 rfl (bZ_rg _) (fun h1 => ?_) (fun h1 => ?_)
  · have h1 : ck = false := (bZ_0 _).mp h1
    refine vv_aload_n F zd_MO_knowClauses_8 rfl 0 rfl ?_
    refine vv_iconst F zd_MO_knowClauses_9 ?_
    refine vv_ti (show (1 : Int) = bZ true from rfl) ?_
    refine vv_put (v := .int (iI (bZ true))) (ws' := [ceO 7 mo [.int (iI th), .int (iI n), .int (iI ac), .ref tha, .int (iI (bZ gk)), .ref rea, .ref poa, .int (iI mn), .ref cha, .ref goa, .ref lea, .int (iI nv), .int (iI mm), .ref fia, .ref sea, .int (iI (bZ true)), .ref sta, .ref lda, .ref vla, .int (iI (bZ gd)), .int (iI fl), .ref dia, .ref qua], ceI G fia 400 f1, ceI G sea 400 f2, ceZ G sta 25600 (fz S), ceZ G lda 25600 (fz Ld), ceI G vla 160 V]) F zd_MO_knowClauses_10 zf_MO zt_MO_ok zn_MO 0 rfl rfl 15 (by decide) zw_771 rfl (nb_bZ true) (fb_bZ true) (Nat.le_of_ble_eq_true rfl) rfl ?_
    refine vv_iconst F zd_MO_knowClauses_13 ?_
    refine vv_istore_n (lv' := [(0, .ref mo), (1, .int (iI 0))]) F zd_MO_knowClauses_14 rfl (by decide) [1, 0] rfl ?_
    refine lp_MO_q1 F mo th n ac tha gk rea poa mn cha goa lea nv mm fia sea true sta lda vla gd fl dia qua f1 f2 V (fun b g hA => ?_) 25600 0 (fz S) (fz Ld) (by omega) ⟨by omega, fun j hj => by omega⟩
    refine vv_conZ (f := b) (g := fz (fun _ _ => false)) (ws' := [ceO 7 mo [.int (iI th), .int (iI n), .int (iI ac), .ref tha, .int (iI (bZ gk)), .ref rea, .ref poa, .int (iI mn), .ref cha, .ref goa, .ref lea, .int (iI nv), .int (iI mm), .ref fia, .ref sea, .int (iI (bZ true)), .ref sta, .ref lda, .ref vla, .int (iI (bZ gd)), .int (iI fl), .ref dia, .ref qua], ceI G fia 400 f1, ceI G sea 400 f2, ceZ G sta 25600 (fz (fun _ _ => false)), ceZ G lda 25600 g, ceI G vla 160 V]) 3 rfl (fun j hj => (hA.2 j (by omega)).1) rfl ?_
    refine vv_conZ (f := g) (g := fz (fun x y => decide (x = y))) (ws' := [ceO 7 mo [.int (iI th), .int (iI n), .int (iI ac), .ref tha, .int (iI (bZ gk)), .ref rea, .ref poa, .int (iI mn), .ref cha, .ref goa, .ref lea, .int (iI nv), .int (iI mm), .ref fia, .ref sea, .int (iI (bZ true)), .ref sta, .ref lda, .ref vla, .int (iI (bZ gd)), .int (iI fl), .ref dia, .ref qua], ceI G fia 400 f1, ceI G sea 400 f2, ceZ G sta 25600 (fz (fun _ _ => false)), ceZ G lda 25600 (fz (fun x y => decide (x = y))), ceI G vla 160 V]) 4 rfl (fun j hj => by rw [(hA.2 j (by omega)).2]; exact diag hj) rfl ?_
    refine vv_aload_n F zd_MO_knowClauses_54 rfl 0 rfl ?_
    refine vv_iconst F zd_MO_knowClauses_55 ?_
    refine vv_put (v := .int (iI (-1))) (ws' := [ceO 7 mo [.int (iI th), .int (iI n), .int (iI ac), .ref tha, .int (iI (bZ gk)), .ref rea, .ref poa, .int (iI mn), .ref cha, .ref goa, .ref lea, .int (iI nv), .int (iI mm), .ref fia, .ref sea, .int (iI (bZ true)), .ref sta, .ref lda, .ref vla, .int (iI (bZ gd)), .int (iI (-1)), .ref dia, .ref qua], ceI G fia 400 f1, ceI G sea 400 f2, ceZ G sta 25600 (fz (fun _ _ => false)), ceZ G lda 25600 (fz (fun x y => decide (x = y))), ceI G vla 160 V]) F zd_MO_knowClauses_56 zf_MO zt_MO_ok zn_MO 0 rfl rfl 20 (by decide) zw_776 rfl rfl rfl (Nat.le_of_ble_eq_true rfl) rfl ?_
    refine vv_iconst F zd_MO_knowClauses_59 ?_
    refine vv_istore_n (lv' := [(0, .ref mo), (1, .int (iI 0))]) F zd_MO_knowClauses_60 rfl (by decide) [1, 0] rfl ?_
    refine lp_MO_q2 F mo th n ac tha gk rea poa mn cha goa lea nv mm fia sea true sta lda vla gd dia qua f1 f2 V hv hm hf (fun fl9 S9 L9 hB9 => ?_) mm.toNat 0 (-1) (fun _ _ => false) (fun x y => decide (x = y)) (by omega) ⟨by omega, rfl, ldR_0, fai_0⟩
    have hfr := fai_rg hB9.2.2.2
    refine vv_aload_n F zd_MO_knowClauses_141 rfl 0 rfl ?_
    refine vv_aload_n F zd_MO_knowClauses_142 rfl 0 rfl ?_
    refine vv_get F zd_MO_knowClauses_143 zf_MO 0 rfl rfl 20 (by decide) zw_776 rfl ?_
    refine vv_if_ge (tgt := 153) F zd_MO_knowClauses_146 rfl (by first | exact ⟨by omega, by omega⟩) (fun h2 => ?_) (fun h2 => ?_)
    · refine vv_iconst F zd_MO_knowClauses_153 ?_
      refine vv_ti (show (0 : Int) = bZ false from rfl) ?_
      refine vv_put (v := .int (iI (bZ false))) (ws' := [ceO 7 mo [.int (iI th), .int (iI n), .int (iI ac), .ref tha, .int (iI (bZ gk)), .ref rea, .ref poa, .int (iI mn), .ref cha, .ref goa, .ref lea, .int (iI nv), .int (iI mm), .ref fia, .ref sea, .int (iI (bZ true)), .ref sta, .ref lda, .ref vla, .int (iI (bZ false)), .int (iI fl9), .ref dia, .ref qua], ceI G fia 400 f1, ceI G sea 400 f2, ceZ G sta 25600 (fz S9), ceZ G lda 25600 (fz L9), ceI G vla 160 V]) F zd_MO_knowClauses_154 zf_MO zt_MO_ok zn_MO 0 rfl rfl 19 (by decide) zw_775 rfl (nb_bZ false) (fb_bZ false) (Nat.le_of_ble_eq_true rfl) rfl ?_
      refine vv_iconst F zd_MO_knowClauses_157 ?_
      refine vv_istore_n (lv' := [(0, .ref mo), (1, .int (iI 0))]) F zd_MO_knowClauses_158 rfl (by decide) [1, 0] rfl ?_
      refine lp_MO_q3 F mo th n ac tha gk rea poa mn cha goa lea nv mm fia sea true sta lda vla false fl9 dia qua f1 f2 S9 L9 (fun V9 hC => ?_) 80 0 V (by omega) ⟨by omega, fun j hj => by omega⟩
      refine vv_iconst F zd_MO_knowClauses_178 ?_
      refine vv_istore_n (lv' := [(0, .ref mo), (1, .int (iI 0))]) F zd_MO_knowClauses_179 rfl (by decide) [1, 0] rfl ?_
      refine vv_iload_n F zd_MO_knowClauses_180 rfl 1 rfl ?_
      refine vv_aload_n F zd_MO_knowClauses_181 rfl 0 rfl ?_
      refine vv_get F zd_MO_knowClauses_182 zf_MO 0 rfl rfl 11 (by decide) zw_767 rfl ?_
      refine vv_icmp_ge (tgt := 297) F zd_MO_knowClauses_185 rfl (by decide) (by first | exact ⟨by omega, by omega⟩) (fun h9 => absurd h9 (by omega)) (fun _ => ?_)
      refine vv_aload_n F zd_MO_knowClauses_188 rfl 0 rfl ?_
      refine vv_get F zd_MO_knowClauses_189 zf_MO 0 rfl rfl 19 (by decide) zw_775 rfl ?_
      refine vv_if_eq (tgt := 297) F zd_MO_knowClauses_192 rfl (bZ_rg _) (fun _ => ?_) (fun h9 => absurd h9 (by decide))
      exact vv_vret F zd_MO_knowClauses_297 ⟨S9, L9, V9, false, fl9, ⟨hB9.2.1, hB9.2.2.1, hB9.2.2.2, (decide_eq_false (by omega)).symm, fun q => by cases q⟩, rfl, rfl⟩
    · refine vv_iconst F zd_MO_knowClauses_149 ?_
      refine vv_goto (tgt := 154) F zd_MO_knowClauses_150 rfl ?_
      refine vv_ti (show (1 : Int) = bZ true from rfl) ?_
      refine vv_put (v := .int (iI (bZ true))) (ws' := [ceO 7 mo [.int (iI th), .int (iI n), .int (iI ac), .ref tha, .int (iI (bZ gk)), .ref rea, .ref poa, .int (iI mn), .ref cha, .ref goa, .ref lea, .int (iI nv), .int (iI mm), .ref fia, .ref sea, .int (iI (bZ true)), .ref sta, .ref lda, .ref vla, .int (iI (bZ true)), .int (iI fl9), .ref dia, .ref qua], ceI G fia 400 f1, ceI G sea 400 f2, ceZ G sta 25600 (fz S9), ceZ G lda 25600 (fz L9), ceI G vla 160 V]) F zd_MO_knowClauses_154 zf_MO zt_MO_ok zn_MO 0 rfl rfl 19 (by decide) zw_775 rfl (nb_bZ true) (fb_bZ true) (Nat.le_of_ble_eq_true rfl) rfl ?_
      refine vv_iconst F zd_MO_knowClauses_157 ?_
      refine vv_istore_n (lv' := [(0, .ref mo), (1, .int (iI 0))]) F zd_MO_knowClauses_158 rfl (by decide) [1, 0] rfl ?_
      refine lp_MO_q3 F mo th n ac tha gk rea poa mn cha goa lea nv mm fia sea true sta lda vla true fl9 dia qua f1 f2 S9 L9 (fun V9 hC => ?_) 80 0 V (by omega) ⟨by omega, fun j hj => by omega⟩
      refine vv_iconst F zd_MO_knowClauses_178 ?_
      refine vv_istore_n (lv' := [(0, .ref mo), (1, .int (iI 0))]) F zd_MO_knowClauses_179 rfl (by decide) [1, 0] rfl ?_
      refine lp_MO_q5 F mo th n ac tha gk rea poa mn cha goa lea nv mm fia sea true sta lda vla fl9 dia qua f1 f2 S9 L9 hv (fun V8 hD => ?_) nv.toNat 0 V9 (by omega) ⟨by omega, fun y hy => hC.2 y (by omega)⟩
      exact vv_vret F zd_MO_knowClauses_297 ⟨S9, L9, V8, true, fl9, ⟨hB9.2.1, hB9.2.2.1, hB9.2.2.2, (decide_eq_true (by omega)).symm, fun _ => hD.2⟩, rfl, rfl⟩
  · have h1 : ck = true := by cases hb9 : ck with | true => rfl | false => exact absurd ((bZ_0 _).mpr hb9) h1
    exact vv_vret F zd_MO_knowClauses_7 ⟨S, Ld, V, gd, fl, hc h1, rfl, by rw [h1]⟩
