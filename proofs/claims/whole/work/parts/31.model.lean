set_option maxHeartbeats 4000000 in
set_option maxRecDepth 100000 in
theorem cn_MO_cell (l : Launch) (G : vv_G) (u : Int) (v : Int)  :
    vv_D l zy_MO_cell zc_MO_cell 2 (some .int) { frames := 0, cells := 0, slots := 0, locals := 0 } G [.int (iI u), .int (iI v)] [] (some (.int (iI (160 * u + v)))) [] := by
  refine vv_met (by decide +kernel) (Nat.le_of_ble_eq_true rfl) rfl ?_
  intro p e s m args below meth c A F
  refine vv_sipush F zd_MO_cell_0 (by decide) ?_
  refine vv_iload_n F zd_MO_cell_3 rfl 0 rfl ?_
  refine vv_imul F zd_MO_cell_4 ?_
  refine vv_iload_n F zd_MO_cell_5 rfl 1 rfl ?_
  refine vv_iadd F zd_MO_cell_6 ?_
  exact vv_iret F zd_MO_cell_7 ⟨rfl, rfl⟩

set_option maxHeartbeats 4000000 in
set_option maxRecDepth 100000 in
theorem cn_MO_noNode (l : Launch) (G : vv_G) (mo : Nat) (th : Int) (n : Int) (ac : Int) (tha : Nat) (gk : Bool) (rea : Nat) (poa : Nat) (mn : Int) (cha : Nat) (goa : Nat) (lea : Nat) (nv : Int) (mm : Int) (fia : Nat) (sea : Nat) (ck : Bool) (sta : Nat) (lda : Nat) (vla : Nat) (gd : Bool) (fl : Int) (dia : Nat) (qua : Nat) (u : Int) (hu : rg u) (hn : 0 ≤ n ∧ n ≤ 160) :
    vv_D l zy_MO_noNode zc_MO_noNode 2 (some .boolean) { frames := 0, cells := 0, slots := 0, locals := 0 } G [.ref mo, .int (iI u)] [ceO 7 mo [.int (iI th), .int (iI n), .int (iI ac), .ref tha, .int (iI (bZ gk)), .ref rea, .ref poa, .int (iI mn), .ref cha, .ref goa, .ref lea, .int (iI nv), .int (iI mm), .ref fia, .ref sea, .int (iI (bZ ck)), .ref sta, .ref lda, .ref vla, .int (iI (bZ gd)), .int (iI fl), .ref dia, .ref qua]] (some (.int (iI (bZ (decide (u < 0 ∨ n ≤ u)))))) [ceO 7 mo [.int (iI th), .int (iI n), .int (iI ac), .ref tha, .int (iI (bZ gk)), .ref rea, .ref poa, .int (iI mn), .ref cha, .ref goa, .ref lea, .int (iI nv), .int (iI mm), .ref fia, .ref sea, .int (iI (bZ ck)), .ref sta, .ref lda, .ref vla, .int (iI (bZ gd)), .int (iI fl), .ref dia, .ref qua]] := by
  refine vv_met (by decide +kernel) (Nat.le_of_ble_eq_true rfl) rfl ?_
  intro p e s m args below meth c A F
  refine vv_iload_n F zd_MO_noNode_0 rfl 1 rfl ?_
  refine vv_if_lt (tgt := 12) F zd_MO_noNode_1 rfl (by first | exact ⟨by omega, by omega⟩ | exact hu) (fun h1 => ?_) (fun h1 => ?_)
  · refine vv_iconst F zd_MO_noNode_12 ?_
    refine vv_goto (tgt := 17) F zd_MO_noNode_13 rfl ?_
    exact vv_zret (v := true) F zd_MO_noNode_17 ⟨by rw [decide_eq_true (Or.inl (by omega))], rfl⟩
  · refine vv_iload_n F zd_MO_noNode_4 rfl 1 rfl ?_
    refine vv_aload_n F zd_MO_noNode_5 rfl 0 rfl ?_
    refine vv_get F zd_MO_noNode_6 zf_MO 0 rfl rfl 1 (by decide) zw_757 rfl ?_
    refine vv_icmp_lt (tgt := 16) F zd_MO_noNode_9 rfl (by first | exact ⟨by omega, by omega⟩ | exact hu) (by first | exact ⟨by omega, by omega⟩ | exact hu) (fun h2 => ?_) (fun h2 => ?_)
    · refine vv_iconst F zd_MO_noNode_16 ?_
      exact vv_zret (v := false) F zd_MO_noNode_17 ⟨by rw [decide_eq_false (by omega)], rfl⟩
    · refine vv_iconst F zd_MO_noNode_12 ?_
      refine vv_goto (tgt := 17) F zd_MO_noNode_13 rfl ?_
      exact vv_zret (v := true) F zd_MO_noNode_17 ⟨by rw [decide_eq_true (Or.inr (by omega))], rfl⟩

set_option maxHeartbeats 4000000 in
set_option maxRecDepth 100000 in
theorem cn_MO_noLiteral (l : Launch) (G : vv_G) (mo : Nat) (th : Int) (n : Int) (ac : Int) (tha : Nat) (gk : Bool) (rea : Nat) (poa : Nat) (mn : Int) (cha : Nat) (goa : Nat) (lea : Nat) (nv : Int) (mm : Int) (fia : Nat) (sea : Nat) (ck : Bool) (sta : Nat) (lda : Nat) (vla : Nat) (gd : Bool) (fl : Int) (dia : Nat) (qua : Nat) (u : Int) (hu : rg u) (hv : 1 ≤ nv ∧ nv ≤ 80) :
    vv_D l zy_MO_noLiteral zc_MO_noLiteral 2 (some .boolean) { frames := 0, cells := 0, slots := 0, locals := 0 } G [.ref mo, .int (iI u)] [ceO 7 mo [.int (iI th), .int (iI n), .int (iI ac), .ref tha, .int (iI (bZ gk)), .ref rea, .ref poa, .int (iI mn), .ref cha, .ref goa, .ref lea, .int (iI nv), .int (iI mm), .ref fia, .ref sea, .int (iI (bZ ck)), .ref sta, .ref lda, .ref vla, .int (iI (bZ gd)), .int (iI fl), .ref dia, .ref qua]] (some (.int (iI (bZ (decide (u = 0 ∨ u < -nv ∨ nv < u)))))) [ceO 7 mo [.int (iI th), .int (iI n), .int (iI ac), .ref tha, .int (iI (bZ gk)), .ref rea, .ref poa, .int (iI mn), .ref cha, .ref goa, .ref lea, .int (iI nv), .int (iI mm), .ref fia, .ref sea, .int (iI (bZ ck)), .ref sta, .ref lda, .ref vla, .int (iI (bZ gd)), .int (iI fl), .ref dia, .ref qua]] := by
  refine vv_met (by decide +kernel) (Nat.le_of_ble_eq_true rfl) rfl ?_
  intro p e s m args below meth c A F
  refine vv_iload_n F zd_MO_noLiteral_0 rfl 1 rfl ?_
  refine vv_if_eq (tgt := 21) F zd_MO_noLiteral_1 rfl (by first | exact ⟨by omega, by omega⟩ | exact hu) (fun h1 => ?_) (fun h1 => ?_)
  · refine vv_iconst F zd_MO_noLiteral_21 ?_
    refine vv_goto (tgt := 26) F zd_MO_noLiteral_22 rfl ?_
    exact vv_zret (v := true) F zd_MO_noLiteral_26 ⟨by rw [decide_eq_true (by omega)], rfl⟩
  · refine vv_iload_n F zd_MO_noLiteral_4 rfl 1 rfl ?_
    refine vv_aload_n F zd_MO_noLiteral_5 rfl 0 rfl ?_
    refine vv_get F zd_MO_noLiteral_6 zf_MO 0 rfl rfl 11 (by decide) zw_767 rfl ?_
    refine vv_ineg F zd_MO_noLiteral_9 ?_
    refine vv_icmp_lt (tgt := 21) F zd_MO_noLiteral_10 rfl (by first | exact ⟨by omega, by omega⟩ | exact hu) (by first | exact ⟨by omega, by omega⟩ | exact hu) (fun h2 => ?_) (fun h2 => ?_)
    · refine vv_iconst F zd_MO_noLiteral_21 ?_
      refine vv_goto (tgt := 26) F zd_MO_noLiteral_22 rfl ?_
      exact vv_zret (v := true) F zd_MO_noLiteral_26 ⟨by rw [decide_eq_true (by omega)], rfl⟩
    · refine vv_iload_n F zd_MO_noLiteral_13 rfl 1 rfl ?_
      refine vv_aload_n F zd_MO_noLiteral_14 rfl 0 rfl ?_
      refine vv_get F zd_MO_noLiteral_15 zf_MO 0 rfl rfl 11 (by decide) zw_767 rfl ?_
      refine vv_icmp_le (tgt := 25) F zd_MO_noLiteral_18 rfl (by first | exact ⟨by omega, by omega⟩ | exact hu) (by first | exact ⟨by omega, by omega⟩ | exact hu) (fun h3 => ?_) (fun h3 => ?_)
      · refine vv_iconst F zd_MO_noLiteral_25 ?_
        exact vv_zret (v := false) F zd_MO_noLiteral_26 ⟨by rw [decide_eq_false (by omega)], rfl⟩
      · refine vv_iconst F zd_MO_noLiteral_21 ?_
        refine vv_goto (tgt := 26) F zd_MO_noLiteral_22 rfl ?_
        exact vv_zret (v := true) F zd_MO_noLiteral_26 ⟨by rw [decide_eq_true (by omega)], rfl⟩

set_option maxHeartbeats 4000000 in
set_option maxRecDepth 100000 in
theorem cn_MO_literal (l : Launch) (G : vv_G) (u : Int) (hu : -80 ≤ u ∧ u ≤ 80) :
    vv_D l zy_MO_literal zc_MO_literal 1 (some .int) { frames := 0, cells := 0, slots := 0, locals := 0 } G [.int (iI u)] [] (some (.int (iI (ptO u)))) [] := by
  refine vv_met (by decide +kernel) (Nat.le_of_ble_eq_true rfl) rfl ?_
  intro p e s m args below meth c A F
  refine vv_iload_n F zd_MO_literal_0 rfl 0 rfl ?_
  refine vv_if_le (tgt := 12) F zd_MO_literal_1 rfl (by first | exact ⟨by omega, by omega⟩) (fun h1 => ?_) (fun h1 => ?_)
  · refine vv_bipush F zd_MO_literal_12 (by decide) ?_
    refine vv_iload_n F zd_MO_literal_14 rfl 0 rfl ?_
    refine vv_imul F zd_MO_literal_15 ?_
    refine vv_iconst F zd_MO_literal_16 ?_
    refine vv_isub F zd_MO_literal_17 ?_
    exact vv_iret F zd_MO_literal_18 ⟨by rw [ptO_n (by omega)], rfl⟩
  · refine vv_iconst F zd_MO_literal_4 ?_
    refine vv_iload_n F zd_MO_literal_5 rfl 0 rfl ?_
    refine vv_imul F zd_MO_literal_6 ?_
    refine vv_iconst F zd_MO_literal_7 ?_
    refine vv_isub F zd_MO_literal_8 ?_
    refine vv_goto (tgt := 18) F zd_MO_literal_9 rfl ?_
    exact vv_iret F zd_MO_literal_18 ⟨by rw [ptO_p (by omega)], rfl⟩

set_option maxHeartbeats 4000000 in
set_option maxRecDepth 100000 in
theorem cn_MO_opposite (l : Launch) (G : vv_G) (u : Int) (hu : 0 ≤ u ∧ u < 160) :
    vv_D l zy_MO_opposite zc_MO_opposite 1 (some .int) { frames := 0, cells := 0, slots := 0, locals := 0 } G [.int (iI u)] [] (some (.int (iI (opp u.toNat : Int)))) [] := by
  refine vv_met (by decide +kernel) (Nat.le_of_ble_eq_true rfl) rfl ?_
  intro p e s m args below meth c A F
  refine vv_iload_n F zd_MO_opposite_0 rfl 0 rfl ?_
  refine vv_iconst F zd_MO_opposite_1 ?_
  refine vv_irem F zd_MO_opposite_2 (by first | exact ⟨by omega, by omega⟩) (by decide) (by omega) (by omega) ?_
  refine vv_if_ne (tgt := 12) F zd_MO_opposite_3 rfl (by first | exact ⟨by omega, by omega⟩) (fun h1 => ?_) (fun h1 => ?_)
  · refine vv_iload_n F zd_MO_opposite_12 rfl 0 rfl ?_
    refine vv_iconst F zd_MO_opposite_13 ?_
    refine vv_isub F zd_MO_opposite_14 ?_
    exact vv_iret F zd_MO_opposite_15 ⟨by unfold opp; rw [if_neg (by omega)]; congr 3; omega, rfl⟩
  · refine vv_iload_n F zd_MO_opposite_6 rfl 0 rfl ?_
    refine vv_iconst F zd_MO_opposite_7 ?_
    refine vv_iadd F zd_MO_opposite_8 ?_
    refine vv_goto (tgt := 15) F zd_MO_opposite_9 rfl ?_
    exact vv_iret F zd_MO_opposite_15 ⟨by unfold opp; rw [if_pos (by omega)]; congr 3; omega, rfl⟩

/-- the reference's nodes -/
def mnod (n ac : Int) (gk : Bool) (B : Nat → Nat → Bool) (u th2 n2 ac2 : Int) (gk2 : Bool) (B2 : Nat → Nat → Bool) : Prop :=
  ((u < 1 ∨ 160 < u) ∧ th2 = 1 ∧ n2 = n ∧ ac2 = ac ∧ gk2 = gk ∧ B2 = B) ∨ (1 ≤ u ∧ u ≤ 160 ∧ th2 = 0 ∧ n2 = u ∧ ac2 = 0 ∧ gk2 = false ∧ B2 = fun _ _ => false)

set_option maxHeartbeats 4000000 in
set_option maxRecDepth 100000 in
theorem lp_MO_no {p : Program} {l : Launch} {e : Env} {s : State} {m : MethodId} {args : Array Value} {below : List Frame} {meth : Method} {c : Code} {A : Nat → Prop} {Q : State → Prop} {G : vv_G} (F : vv_F p s m args meth c zc_MO_nodes "ClauseGraphModel" "nodes" none G A 3) (mo : Nat) (th : Int) (n : Int) (ac : Int) (tha : Nat) (gk : Bool) (rea : Nat) (poa : Nat) (mn : Int) (cha : Nat) (goa : Nat) (lea : Nat) (nv : Int) (mm : Int) (fia : Nat) (sea : Nat) (ck : Bool) (sta : Nat) (lda : Nat) (vla : Nat) (gd : Bool) (fl : Int) (dia : Nat) (qua : Nat) (u : Int) 
    (k : ∀ (b : Nat → Bool), (0 ≤ (25600 : Int) ∧ ∀ j : Nat, (j : Int) < (25600 : Int) → b j = false) → vv_V p l e { frames := 0, cells := 0, slots := 0, locals := 0 } s m args below meth c G A 3 Q 66 [(0, .ref mo), (1, .int (iI u)), (2, .int (iI (25600 : Int)))] [] [ceO 7 mo [.int (iI th), .int (iI n), .int (iI ac), .ref tha, .int (iI (bZ gk)), .ref rea, .ref poa, .int (iI mn), .ref cha, .ref goa, .ref lea, .int (iI nv), .int (iI mm), .ref fia, .ref sea, .int (iI (bZ ck)), .ref sta, .ref lda, .ref vla, .int (iI (bZ gd)), .int (iI fl), .ref dia, .ref qua], ceZ G tha 25600 b] 0 0)  :
    ∀ (d : Nat) (i : Int) (b : Nat → Bool), i + (d : Int) = (25600 : Int) → (0 ≤ i ∧ ∀ j : Nat, (j : Int) < i → b j = false) → vv_V p l e { frames := 0, cells := 0, slots := 0, locals := 0 } s m args below meth c G A 3 Q 46 [(0, .ref mo), (1, .int (iI u)), (2, .int (iI i))] [] [ceO 7 mo [.int (iI th), .int (iI n), .int (iI ac), .ref tha, .int (iI (bZ gk)), .ref rea, .ref poa, .int (iI mn), .ref cha, .ref goa, .ref lea, .int (iI nv), .int (iI mm), .ref fia, .ref sea, .int (iI (bZ ck)), .ref sta, .ref lda, .ref vla, .int (iI (bZ gd)), .int (iI fl), .ref dia, .ref qua], ceZ G tha 25600 b] 0 0 := by
  intro d
  induction d with
  | zero =>
    intro i b hd hI
    have hz : i = (25600 : Int) := by omega
    subst hz
    refine vv_iload_n F zd_MO_nodes_46 rfl 2 rfl ?_
    refine vv_sipush F zd_MO_nodes_47 (by decide) ?_
    refine vv_icmp_ge (tgt := 66) F zd_MO_nodes_50 rfl (by first | exact ⟨by omega, by omega⟩) (by decide) (fun _ => ?_) (fun h9 => absurd h9 (by omega))
    exact k b hI
  | succ d ih =>
    intro i b hd hI
    refine vv_iload_n F zd_MO_nodes_46 rfl 2 rfl ?_
    refine vv_sipush F zd_MO_nodes_47 (by decide) ?_
    refine vv_icmp_ge (tgt := 66) F zd_MO_nodes_50 rfl (by first | exact ⟨by omega, by omega⟩) (by decide) (fun h9 => absurd h9 (by omega)) (fun _ => ?_)
    refine vv_aload_n F zd_MO_nodes_53 rfl 0 rfl ?_
    refine vv_get F zd_MO_nodes_54 zf_MO 0 rfl rfl 3 (by decide) zw_759 rfl ?_
    refine vv_iload_n F zd_MO_nodes_57 rfl 2 rfl ?_
    refine vv_iconst F zd_MO_nodes_58 ?_
    refine vv_ti (show (0 : Int) = bZ false from rfl) ?_
    refine vv_zast (x := false) (ws' := [ceO 7 mo [.int (iI th), .int (iI n), .int (iI ac), .ref tha, .int (iI (bZ gk)), .ref rea, .ref poa, .int (iI mn), .ref cha, .ref goa, .ref lea, .int (iI nv), .int (iI mm), .ref fia, .ref sea, .int (iI (bZ ck)), .ref sta, .ref lda, .ref vla, .int (iI (bZ gd)), .int (iI fl), .ref dia, .ref qua], ceZ G tha 25600 (va_up b i.toNat false)]) F zd_MO_nodes_59 1 rfl ⟨by omega, by omega⟩ (by decide) rfl ?_
    refine vv_iinc (j := 2) (lv' := [(0, .ref mo), (1, .int (iI u)), (2, .int (iI (i + 1)))]) F zd_MO_nodes_60 rfl (by decide) [1, 2, 0] rfl ?_
    refine vv_goto (tgt := 46) F zd_MO_nodes_63 rfl ?_
    exact ih (i + 1) (va_up b i.toNat false) (by omega) (⟨by omega, fun j hj => by
      by_cases z : j = i.toNat
      · rw [z, va_up_self]
      · rw [va_up_ne _ _ z]; exact hI.2 j (by omega)⟩)

set_option maxHeartbeats 4000000 in
set_option maxRecDepth 100000 in
theorem cn_MO_nodes (l : Launch) (G : vv_G) (mo : Nat) (th : Int) (n : Int) (ac : Int) (tha : Nat) (gk : Bool) (rea : Nat) (poa : Nat) (mn : Int) (cha : Nat) (goa : Nat) (lea : Nat) (nv : Int) (mm : Int) (fia : Nat) (sea : Nat) (ck : Bool) (sta : Nat) (lda : Nat) (vla : Nat) (gd : Bool) (fl : Int) (dia : Nat) (qua : Nat) (B : Nat → Nat → Bool) (u : Int) (hu : rg u) :
    vv_C l zy_MO_nodes zc_MO_nodes 3 none { frames := 0, cells := 0, slots := 0, locals := 0 } G [.ref mo, .int (iI u)] [ceO 7 mo [.int (iI th), .int (iI n), .int (iI ac), .ref tha, .int (iI (bZ gk)), .ref rea, .ref poa, .int (iI mn), .ref cha, .ref goa, .ref lea, .int (iI nv), .int (iI mm), .ref fia, .ref sea, .int (iI (bZ ck)), .ref sta, .ref lda, .ref vla, .int (iI (bZ gd)), .int (iI fl), .ref dia, .ref qua], ceZ G tha 25600 (fz B)] (fun v7 w7 => ∃ (th2 : Int) (n2 : Int) (ac2 : Int) (gk2 : Bool) (B2 : Nat → Nat → Bool), (mnod n ac gk B u th2 n2 ac2 gk2 B2) ∧ v7 = none ∧ w7 = [ceO 7 mo [.int (iI th2), .int (iI n2), .int (iI ac2), .ref tha, .int (iI (bZ gk2)), .ref rea, .ref poa, .int (iI mn), .ref cha, .ref goa, .ref lea, .int (iI nv), .int (iI mm), .ref fia, .ref sea, .int (iI (bZ ck)), .ref sta, .ref lda, .ref vla, .int (iI (bZ gd)), .int (iI fl), .ref dia, .ref qua], ceZ G tha 25600 (fz B2)]) := by
  refine vv_met (by decide +kernel) (Nat.le_of_ble_eq_true rfl) rfl ?_
  intro p e s m args below meth c A F
  refine vv_aload_n F zd_MO_nodes_0 rfl 0 rfl ?_
  refine vv_iload_n F zd_MO_nodes_1 rfl 1 rfl ?_
  refine vv_iconst F zd_MO_nodes_2 ?_
  refine vv_icmp_lt (tgt := 13) F zd_MO_nodes_3 rfl (by first | exact ⟨by omega, by omega⟩ | exact hu) (by decide) (fun h1 => ?_) (fun h1 => ?_)
  · refine vv_iconst F zd_MO_nodes_13 ?_
    refine vv_goto (tgt := 18) F zd_MO_nodes_14 rfl ?_
    refine vv_put (v := .int (iI 1)) (ws' := [ceO 7 mo [.int (iI 1), .int (iI n), .int (iI ac), .ref tha, .int (iI (bZ gk)), .ref rea, .ref poa, .int (iI mn), .ref cha, .ref goa, .ref lea, .int (iI nv), .int (iI mm), .ref fia, .ref sea, .int (iI (bZ ck)), .ref sta, .ref lda, .ref vla, .int (iI (bZ gd)), .int (iI fl), .ref dia, .ref qua], ceZ G tha 25600 (fz B)]) F zd_MO_nodes_18 zf_MO zt_MO_ok zn_MO 0 rfl rfl 0 (by decide) zw_756 rfl rfl rfl (Nat.le_of_ble_eq_true rfl) rfl ?_
    refine vv_aload_n F zd_MO_nodes_21 rfl 0 rfl ?_
    refine vv_get F zd_MO_nodes_22 zf_MO 0 rfl rfl 0 (by decide) zw_756 rfl ?_
    refine vv_if_le (tgt := 29) F zd_MO_nodes_25 rfl (by decide) (fun h9 => absurd h9 (by decide)) (fun _ => ?_)
    exact vv_vret F zd_MO_nodes_28 ⟨_, _, _, _, _, Or.inl ⟨by omega, rfl, rfl, rfl, rfl, rfl⟩, rfl, rfl⟩
  · refine vv_iload_n F zd_MO_nodes_6 rfl 1 rfl ?_
    refine vv_sipush F zd_MO_nodes_7 (by decide) ?_
    refine vv_icmp_le (tgt := 17) F zd_MO_nodes_10 rfl (by first | exact ⟨by omega, by omega⟩ | exact hu) (by decide) (fun h2 => ?_) (fun h2 => ?_)
    · refine vv_iconst F zd_MO_nodes_17 ?_
      refine vv_put (v := .int (iI 0)) (ws' := [ceO 7 mo [.int (iI 0), .int (iI n), .int (iI ac), .ref tha, .int (iI (bZ gk)), .ref rea, .ref poa, .int (iI mn), .ref cha, .ref goa, .ref lea, .int (iI nv), .int (iI mm), .ref fia, .ref sea, .int (iI (bZ ck)), .ref sta, .ref lda, .ref vla, .int (iI (bZ gd)), .int (iI fl), .ref dia, .ref qua], ceZ G tha 25600 (fz B)]) F zd_MO_nodes_18 zf_MO zt_MO_ok zn_MO 0 rfl rfl 0 (by decide) zw_756 rfl rfl rfl (Nat.le_of_ble_eq_true rfl) rfl ?_
      refine vv_aload_n F zd_MO_nodes_21 rfl 0 rfl ?_
      refine vv_get F zd_MO_nodes_22 zf_MO 0 rfl rfl 0 (by decide) zw_756 rfl ?_
      refine vv_if_le (tgt := 29) F zd_MO_nodes_25 rfl (by decide) (fun _ => ?_) (fun h9 => absurd h9 (by decide))
      refine vv_aload_n F zd_MO_nodes_29 rfl 0 rfl ?_
      refine vv_iload_n F zd_MO_nodes_30 rfl 1 rfl ?_
      refine vv_put (v := .int (iI u)) (ws' := [ceO 7 mo [.int (iI 0), .int (iI u), .int (iI ac), .ref tha, .int (iI (bZ gk)), .ref rea, .ref poa, .int (iI mn), .ref cha, .ref goa, .ref lea, .int (iI nv), .int (iI mm), .ref fia, .ref sea, .int (iI (bZ ck)), .ref sta, .ref lda, .ref vla, .int (iI (bZ gd)), .int (iI fl), .ref dia, .ref qua], ceZ G tha 25600 (fz B)]) F zd_MO_nodes_31 zf_MO zt_MO_ok zn_MO 0 rfl rfl 1 (by decide) zw_757 rfl rfl rfl (Nat.le_of_ble_eq_true rfl) rfl ?_
      refine vv_aload_n F zd_MO_nodes_34 rfl 0 rfl ?_
      refine vv_iconst F zd_MO_nodes_35 ?_
      refine vv_put (v := .int (iI 0)) (ws' := [ceO 7 mo [.int (iI 0), .int (iI u), .int (iI 0), .ref tha, .int (iI (bZ gk)), .ref rea, .ref poa, .int (iI mn), .ref cha, .ref goa, .ref lea, .int (iI nv), .int (iI mm), .ref fia, .ref sea, .int (iI (bZ ck)), .ref sta, .ref lda, .ref vla, .int (iI (bZ gd)), .int (iI fl), .ref dia, .ref qua], ceZ G tha 25600 (fz B)]) F zd_MO_nodes_36 zf_MO zt_MO_ok zn_MO 0 rfl rfl 2 (by decide) zw_758 rfl rfl rfl (Nat.le_of_ble_eq_true rfl) rfl ?_
      refine vv_aload_n F zd_MO_nodes_39 rfl 0 rfl ?_
      refine vv_iconst F zd_MO_nodes_40 ?_
      refine vv_ti (show (0 : Int) = bZ false from rfl) ?_
      refine vv_put (v := .int (iI (bZ false))) (ws' := [ceO 7 mo [.int (iI 0), .int (iI u), .int (iI 0), .ref tha, .int (iI (bZ false)), .ref rea, .ref poa, .int (iI mn), .ref cha, .ref goa, .ref lea, .int (iI nv), .int (iI mm), .ref fia, .ref sea, .int (iI (bZ ck)), .ref sta, .ref lda, .ref vla, .int (iI (bZ gd)), .int (iI fl), .ref dia, .ref qua], ceZ G tha 25600 (fz B)]) F zd_MO_nodes_41 zf_MO zt_MO_ok zn_MO 0 rfl rfl 4 (by decide) zw_760 rfl (nb_bZ false) (fb_bZ false) (Nat.le_of_ble_eq_true rfl) rfl ?_
      refine vv_iconst F zd_MO_nodes_44 ?_
      refine vv_istore_n (lv' := [(0, .ref mo), (1, .int (iI u)), (2, .int (iI 0))]) F zd_MO_nodes_45 rfl (by decide) [1, 2, 0] rfl ?_
      refine lp_MO_no F mo 0 u 0 tha false rea poa mn cha goa lea nv mm fia sea ck sta lda vla gd fl dia qua u (fun b hI => ?_) 25600 0 (fz B) (by omega) ⟨by omega, fun j hj => by omega⟩
      refine vv_conZ (f := b) (g := fz (fun _ _ => false)) (ws' := [ceO 7 mo [.int (iI 0), .int (iI u), .int (iI 0), .ref tha, .int (iI (bZ false)), .ref rea, .ref poa, .int (iI mn), .ref cha, .ref goa, .ref lea, .int (iI nv), .int (iI mm), .ref fia, .ref sea, .int (iI (bZ ck)), .ref sta, .ref lda, .ref vla, .int (iI (bZ gd)), .int (iI fl), .ref dia, .ref qua], ceZ G tha 25600 (fz (fun _ _ => false))]) 1 rfl (fun j hj => hI.2 j (by omega)) rfl ?_
      exact vv_vret F zd_MO_nodes_66 ⟨_, _, _, _, _, Or.inr ⟨by omega, by omega, rfl, rfl, rfl, rfl, rfl⟩, rfl, rfl⟩
    · refine vv_iconst F zd_MO_nodes_13 ?_
      refine vv_goto (tgt := 18) F zd_MO_nodes_14 rfl ?_
      refine vv_put (v := .int (iI 1)) (ws' := [ceO 7 mo [.int (iI 1), .int (iI n), .int (iI ac), .ref tha, .int (iI (bZ gk)), .ref rea, .ref poa, .int (iI mn), .ref cha, .ref goa, .ref lea, .int (iI nv), .int (iI mm), .ref fia, .ref sea, .int (iI (bZ ck)), .ref sta, .ref lda, .ref vla, .int (iI (bZ gd)), .int (iI fl), .ref dia, .ref qua], ceZ G tha 25600 (fz B)]) F zd_MO_nodes_18 zf_MO zt_MO_ok zn_MO 0 rfl rfl 0 (by decide) zw_756 rfl rfl rfl (Nat.le_of_ble_eq_true rfl) rfl ?_
      refine vv_aload_n F zd_MO_nodes_21 rfl 0 rfl ?_
      refine vv_get F zd_MO_nodes_22 zf_MO 0 rfl rfl 0 (by decide) zw_756 rfl ?_
      refine vv_if_le (tgt := 29) F zd_MO_nodes_25 rfl (by decide) (fun h9 => absurd h9 (by decide)) (fun _ => ?_)
      exact vv_vret F zd_MO_nodes_28 ⟨_, _, _, _, _, Or.inl ⟨by omega, rfl, rfl, rfl, rfl, rfl⟩, rfl, rfl⟩

set_option maxHeartbeats 4000000 in
set_option maxRecDepth 100000 in
theorem lp_MO_c1 {p : Program} {l : Launch} {e : Env} {s : State} {m : MethodId} {args : Array Value} {below : List Frame} {meth : Method} {c : Code} {A : Nat → Prop} {Q : State → Prop} {G : vv_G} (F : vv_F p s m args meth c zc_MO_closeAll "ClauseGraphModel" "closeAll" none G A 6) (mo : Nat) (tb : Nat) (n : Int) (pv : Int) (a : Int) (T : Nat → Nat → Bool) (hn : 0 ≤ n ∧ n ≤ 160) (hk : 0 ≤ pv ∧ pv < n) (ha : 0 ≤ a ∧ a < n)
    (k : ∀ (U : Nat → Nat → Bool), (0 ≤ n ∧ U = jZ T a.toNat pv.toNat n.toNat) → vv_V p l e { frames := 1, cells := 0, slots := 0, locals := 21 } s m args below meth c G A 6 Q 79 [(0, .ref mo), (1, .ref tb), (2, .int (iI n)), (3, .int (iI pv)), (4, .int (iI a)), (5, .int (iI n))] [] [ceZ G tb 25600 (fz U)] 0 0)  :
    ∀ (d : Nat) (b : Int) (U : Nat → Nat → Bool), b + (d : Int) = n → (0 ≤ b ∧ U = jZ T a.toNat pv.toNat b.toNat) → vv_V p l e { frames := 1, cells := 0, slots := 0, locals := 21 } s m args below meth c G A 6 Q 30 [(0, .ref mo), (1, .ref tb), (2, .int (iI n)), (3, .int (iI pv)), (4, .int (iI a)), (5, .int (iI b))] [] [ceZ G tb 25600 (fz U)] 0 0 := by
  intro d
  induction d with
  | zero =>
    intro b U hd hI
    have hz : b = n := by omega
    subst hz
    refine vv_iload F zd_MO_closeAll_30 5 rfl ?_
    refine vv_iload_n F zd_MO_closeAll_32 rfl 2 rfl ?_
    refine vv_icmp_ge (tgt := 79) F zd_MO_closeAll_33 rfl (by first | exact ⟨by omega, by omega⟩) (by first | exact ⟨by omega, by omega⟩) (fun _ => ?_) (fun h9 => absurd h9 (by omega))
    exact k U hI
  | succ d ih =>
    intro b U hd hI
    refine vv_iload F zd_MO_closeAll_30 5 rfl ?_
    refine vv_iload_n F zd_MO_closeAll_32 rfl 2 rfl ?_
    refine vv_icmp_ge (tgt := 79) F zd_MO_closeAll_33 rfl (by first | exact ⟨by omega, by omega⟩) (by first | exact ⟨by omega, by omega⟩) (fun h9 => absurd h9 (by omega)) (fun _ => ?_)
    refine vv_aload_n F zd_MO_closeAll_36 rfl 1 rfl ?_
    refine vv_iload F zd_MO_closeAll_37 4 rfl ?_
    refine vv_iload F zd_MO_closeAll_39 5 rfl ?_
    refine vv_callS (As := [.int (iI a), .int (iI b)]) (rest := [.ref tb]) (wr := [ceZ G tb 25600 (fz U)]) F (cn_MO_cell l G a b) zm_MO_cell zw_844 zw_843 zd_MO_closeAll_41 ⟨by decide, by decide⟩ ⟨by decide, by decide⟩ [] [0] rfl rfl ⟨rfl, rfl, by decide⟩ rfl rfl (Nat.le_of_ble_eq_true rfl) (vv_then (ws' := [ceZ G tb 25600 (fz U)]) (st' := [.int (iI (160 * a + b)), .ref tb]) [0] rfl rfl rfl ?_)
    refine vv_aload_n F zd_MO_closeAll_44 rfl 1 rfl ?_
    refine vv_iload F zd_MO_closeAll_45 4 rfl ?_
    refine vv_iload F zd_MO_closeAll_47 5 rfl ?_
    refine vv_callS (As := [.int (iI a), .int (iI b)]) (rest := [.ref tb, .int (iI (160 * a + b)), .ref tb]) (wr := [ceZ G tb 25600 (fz U)]) F (cn_MO_cell l G a b) zm_MO_cell zw_844 zw_843 zd_MO_closeAll_49 ⟨by decide, by decide⟩ ⟨by decide, by decide⟩ [] [0] rfl rfl ⟨rfl, rfl, by decide⟩ rfl rfl (Nat.le_of_ble_eq_true rfl) (vv_then (ws' := [ceZ G tb 25600 (fz U)]) (st' := [.int (iI (160 * a + b)), .ref tb, .int (iI (160 * a + b)), .ref tb]) [0] rfl rfl rfl ?_)
    refine vv_zald F zd_MO_closeAll_52 0 rfl ⟨by omega, by omega⟩ (by decide) ?_
    refine vv_ti (congrArg bZ (fzI (B := U) (u := a) (v := b) (by omega) ⟨by omega, by omega⟩)) ?_
    refine vv_if_ne (tgt := 67) F zd_MO_closeAll_53 rfl (bZ_rg _) (fun h1 => ?_) (fun h1 => ?_)
    · have h1 : (U a.toNat b.toNat) = true := by cases hb9 : (U a.toNat b.toNat) with | true => rfl | false => exact absurd ((bZ_0 _).mpr hb9) h1
      refine vv_iconst F zd_MO_closeAll_67 ?_
      refine vv_goto (tgt := 72) F zd_MO_closeAll_68 rfl ?_
      refine vv_ti (show (1 : Int) = bZ true from rfl) ?_
      refine vv_zast (x := true) (ws' := [ceZ G tb 25600 (fz (bP U a.toNat b.toNat true))]) F zd_MO_closeAll_72 0 rfl ⟨by omega, by omega⟩ (by decide) (by rw [fzU (by omega) ⟨by omega, by omega⟩]; first | done | rfl) ?_
      refine vv_iinc (j := 5) (lv' := [(0, .ref mo), (1, .ref tb), (2, .int (iI n)), (3, .int (iI pv)), (4, .int (iI a)), (5, .int (iI (b + 1)))]) F zd_MO_closeAll_73 rfl (by decide) [1, 2, 3, 4, 5, 0] rfl ?_
      refine vv_goto (tgt := 30) F zd_MO_closeAll_76 rfl ?_
      exact ih (b + 1) (bP U a.toNat b.toNat true) (by omega) (⟨by omega, by rw [show (b + 1).toNat = b.toNat + 1 by omega, hI.2]; exact jZ_s (by have h9 := h1; rw [hI.2, jZ_at] at h9; rw [h9]; rfl)⟩)
    · have h1 : (U a.toNat b.toNat) = false := (bZ_0 _).mp h1
      refine vv_aload_n F zd_MO_closeAll_56 rfl 1 rfl ?_
      refine vv_iload_n F zd_MO_closeAll_57 rfl 3 rfl ?_
      refine vv_iload F zd_MO_closeAll_58 5 rfl ?_
      refine vv_callS (As := [.int (iI pv), .int (iI b)]) (rest := [.ref tb, .int (iI (160 * a + b)), .ref tb]) (wr := [ceZ G tb 25600 (fz U)]) F (cn_MO_cell l G pv b) zm_MO_cell zw_844 zw_843 zd_MO_closeAll_60 ⟨by decide, by decide⟩ ⟨by decide, by decide⟩ [] [0] rfl rfl ⟨rfl, rfl, by decide⟩ rfl rfl (Nat.le_of_ble_eq_true rfl) (vv_then (ws' := [ceZ G tb 25600 (fz U)]) (st' := [.int (iI (160 * pv + b)), .ref tb, .int (iI (160 * a + b)), .ref tb]) [0] rfl rfl rfl ?_)
      refine vv_zald F zd_MO_closeAll_63 0 rfl ⟨by omega, by omega⟩ (by decide) ?_
      refine vv_ti (congrArg bZ (fzI (B := U) (u := pv) (v := b) (by omega) ⟨by omega, by omega⟩)) ?_
      refine vv_if_eq (tgt := 71) F zd_MO_closeAll_64 rfl (bZ_rg _) (fun h2 => ?_) (fun h2 => ?_)
      · have h2 : (U pv.toNat b.toNat) = false := (bZ_0 _).mp h2
        refine vv_iconst F zd_MO_closeAll_71 ?_
        refine vv_ti (show (0 : Int) = bZ false from rfl) ?_
        refine vv_zast (x := false) (ws' := [ceZ G tb 25600 (fz (bP U a.toNat b.toNat false))]) F zd_MO_closeAll_72 0 rfl ⟨by omega, by omega⟩ (by decide) (by rw [fzU (by omega) ⟨by omega, by omega⟩]; first | done | rfl) ?_
        refine vv_iinc (j := 5) (lv' := [(0, .ref mo), (1, .ref tb), (2, .int (iI n)), (3, .int (iI pv)), (4, .int (iI a)), (5, .int (iI (b + 1)))]) F zd_MO_closeAll_73 rfl (by decide) [1, 2, 3, 4, 5, 0] rfl ?_
        refine vv_goto (tgt := 30) F zd_MO_closeAll_76 rfl ?_
        exact ih (b + 1) (bP U a.toNat b.toNat false) (by omega) (⟨by omega, by rw [show (b + 1).toNat = b.toNat + 1 by omega, hI.2]; exact jZ_s (by have h9 := h1; rw [hI.2, jZ_at] at h9; have h8 := h2; rw [hI.2, jZ_k] at h8; rw [h9, h8]; rfl)⟩)
      · have h2 : (U pv.toNat b.toNat) = true := by cases hb9 : (U pv.toNat b.toNat) with | true => rfl | false => exact absurd ((bZ_0 _).mpr hb9) h2
        refine vv_iconst F zd_MO_closeAll_67 ?_
        refine vv_goto (tgt := 72) F zd_MO_closeAll_68 rfl ?_
        refine vv_ti (show (1 : Int) = bZ true from rfl) ?_
        refine vv_zast (x := true) (ws' := [ceZ G tb 25600 (fz (bP U a.toNat b.toNat true))]) F zd_MO_closeAll_72 0 rfl ⟨by omega, by omega⟩ (by decide) (by rw [fzU (by omega) ⟨by omega, by omega⟩]; first | done | rfl) ?_
        refine vv_iinc (j := 5) (lv' := [(0, .ref mo), (1, .ref tb), (2, .int (iI n)), (3, .int (iI pv)), (4, .int (iI a)), (5, .int (iI (b + 1)))]) F zd_MO_closeAll_73 rfl (by decide) [1, 2, 3, 4, 5, 0] rfl ?_
        refine vv_goto (tgt := 30) F zd_MO_closeAll_76 rfl ?_
        exact ih (b + 1) (bP U a.toNat b.toNat true) (by omega) (⟨by omega, by rw [show (b + 1).toNat = b.toNat + 1 by omega, hI.2]; exact jZ_s (by have h9 := h1; rw [hI.2, jZ_at] at h9; have h8 := h2; rw [hI.2, jZ_k] at h8; rw [h9, h8]; rfl)⟩)

set_option maxHeartbeats 4000000 in
set_option maxRecDepth 100000 in
theorem lp_MO_c2 {p : Program} {l : Launch} {e : Env} {s : State} {m : MethodId} {args : Array Value} {below : List Frame} {meth : Method} {c : Code} {A : Nat → Prop} {Q : State → Prop} {G : vv_G} (F : vv_F p s m args meth c zc_MO_closeAll "ClauseGraphModel" "closeAll" none G A 6) (mo : Nat) (tb : Nat) (n : Int) (pv : Int) (T : Nat → Nat → Bool) (hn : 0 ≤ n ∧ n ≤ 160) (hk : 0 ≤ pv ∧ pv < n)
    (k : ∀ (U : Nat → Nat → Bool), (0 ≤ n ∧ U = pZ T n.toNat pv.toNat n.toNat) → vv_V p l e { frames := 1, cells := 0, slots := 0, locals := 21 } s m args below meth c G A 6 Q 85 [(0, .ref mo), (1, .ref tb), (2, .int (iI n)), (3, .int (iI pv)), (4, .int (iI n))] [] [ceZ G tb 25600 (fz U)] 0 0)  :
    ∀ (d : Nat) (a : Int) (U : Nat → Nat → Bool), a + (d : Int) = n → (0 ≤ a ∧ U = pZ T n.toNat pv.toNat a.toNat) → vv_V p l e { frames := 1, cells := 0, slots := 0, locals := 21 } s m args below meth c G A 6 Q 10 [(0, .ref mo), (1, .ref tb), (2, .int (iI n)), (3, .int (iI pv)), (4, .int (iI a))] [] [ceZ G tb 25600 (fz U)] 0 0 := by
  intro d
  induction d with
  | zero =>
    intro a U hd hI
    have hz : a = n := by omega
    subst hz
    refine vv_iload F zd_MO_closeAll_10 4 rfl ?_
    refine vv_iload_n F zd_MO_closeAll_12 rfl 2 rfl ?_
    refine vv_icmp_ge (tgt := 85) F zd_MO_closeAll_13 rfl (by first | exact ⟨by omega, by omega⟩) (by first | exact ⟨by omega, by omega⟩) (fun _ => ?_) (fun h9 => absurd h9 (by omega))
    exact k U hI
  | succ d ih =>
    intro a U hd hI
    refine vv_iload F zd_MO_closeAll_10 4 rfl ?_
    refine vv_iload_n F zd_MO_closeAll_12 rfl 2 rfl ?_
    refine vv_icmp_ge (tgt := 85) F zd_MO_closeAll_13 rfl (by first | exact ⟨by omega, by omega⟩) (by first | exact ⟨by omega, by omega⟩) (fun h9 => absurd h9 (by omega)) (fun _ => ?_)
    refine vv_aload_n F zd_MO_closeAll_16 rfl 1 rfl ?_
    refine vv_iload F zd_MO_closeAll_17 4 rfl ?_
    refine vv_iload_n F zd_MO_closeAll_19 rfl 3 rfl ?_
    refine vv_callS (As := [.int (iI a), .int (iI pv)]) (rest := [.ref tb]) (wr := [ceZ G tb 25600 (fz U)]) F (cn_MO_cell l G a pv) zm_MO_cell zw_844 zw_843 zd_MO_closeAll_20 ⟨by decide, by decide⟩ ⟨by decide, by decide⟩ [] [0] rfl rfl ⟨rfl, rfl, by decide⟩ rfl rfl (Nat.le_of_ble_eq_true rfl) (vv_then (ws' := [ceZ G tb 25600 (fz U)]) (st' := [.int (iI (160 * a + pv)), .ref tb]) [0] rfl rfl rfl ?_)
    refine vv_zald F zd_MO_closeAll_23 0 rfl ⟨by omega, by omega⟩ (by decide) ?_
    refine vv_ti (congrArg bZ (fzI (B := U) (u := a) (v := pv) (by omega) ⟨by omega, by omega⟩)) ?_
    refine vv_if_eq (tgt := 79) F zd_MO_closeAll_24 rfl (bZ_rg _) (fun h1 => ?_) (fun h1 => ?_)
    · have h1 : (U a.toNat pv.toNat) = false := (bZ_0 _).mp h1
      refine vv_iinc (j := 4) (lv' := [(0, .ref mo), (1, .ref tb), (2, .int (iI n)), (3, .int (iI pv)), (4, .int (iI (a + 1)))]) F zd_MO_closeAll_79 rfl (by decide) [1, 2, 3, 4, 0] rfl ?_
      refine vv_goto (tgt := 10) F zd_MO_closeAll_82 rfl ?_
      exact ih (a + 1) U (by omega) (⟨by omega, by rw [show (a + 1).toNat = a.toNat + 1 by omega, pZ_no (by have h9 := h1; rw [hI.2, pZ_piv (Nat.le_refl _)] at h9; exact h9)]; exact hI.2⟩)
    · have h1 : (U a.toNat pv.toNat) = true := by cases hb9 : (U a.toNat pv.toNat) with | true => rfl | false => exact absurd ((bZ_0 _).mpr hb9) h1
      refine vv_iconst F zd_MO_closeAll_27 ?_
      refine vv_istore (lv' := [(0, .ref mo), (1, .ref tb), (2, .int (iI n)), (3, .int (iI pv)), (4, .int (iI a)), (5, .int (iI 0))]) F zd_MO_closeAll_28 (by decide) [1, 2, 3, 4, 5, 0] rfl ?_
      refine lp_MO_c1 F mo tb n pv a U hn hk ⟨by omega, by omega⟩ (fun U9 hJ => ?_) n.toNat 0 U (by omega) ⟨by omega, (jZ_0 _ _ _).symm⟩
      refine vv_iinc (j := 4) (lv' := [(0, .ref mo), (1, .ref tb), (2, .int (iI n)), (3, .int (iI pv)), (4, .int (iI (a + 1))), (5, .int (iI n))]) F zd_MO_closeAll_79 rfl (by decide) [1, 2, 3, 4, 0, 5] rfl ?_
      refine vv_goto (tgt := 10) F zd_MO_closeAll_82 rfl ?_
      refine vv_locals (lv' := [(0, .ref mo), (1, .ref tb), (2, .int (iI n)), (3, .int (iI pv)), (4, .int (iI (a + 1)))]) [0, 1, 2, 3, 4] rfl ?_
      exact ih (a + 1) U9 (by omega) (⟨by omega, by have h9 := h1; rw [hI.2, pZ_piv (Nat.le_refl _)] at h9; rw [hJ.2, hI.2, pZ_yes h9, show (a + 1).toNat = a.toNat + 1 by omega]⟩)

set_option maxHeartbeats 4000000 in
set_option maxRecDepth 100000 in
theorem lp_MO_c3 {p : Program} {l : Launch} {e : Env} {s : State} {m : MethodId} {args : Array Value} {below : List Frame} {meth : Method} {c : Code} {A : Nat → Prop} {Q : State → Prop} {G : vv_G} (F : vv_F p s m args meth c zc_MO_closeAll "ClauseGraphModel" "closeAll" none G A 6) (mo : Nat) (tb : Nat) (n : Int) (T0 : Nat → Nat → Bool) (hn : 0 ≤ n ∧ n ≤ 160)
    (k : ∀ (T : Nat → Nat → Bool), (0 ≤ n ∧ wrs n.toNat T0 T n.toNat) → vv_V p l e { frames := 1, cells := 0, slots := 0, locals := 21 } s m args below meth c G A 6 Q 91 [(0, .ref mo), (1, .ref tb), (2, .int (iI n)), (3, .int (iI n))] [] [ceZ G tb 25600 (fz T)] 0 0)  :
    ∀ (d : Nat) (pv : Int) (T : Nat → Nat → Bool), pv + (d : Int) = n → (0 ≤ pv ∧ wrs n.toNat T0 T pv.toNat) → vv_V p l e { frames := 1, cells := 0, slots := 0, locals := 21 } s m args below meth c G A 6 Q 2 [(0, .ref mo), (1, .ref tb), (2, .int (iI n)), (3, .int (iI pv))] [] [ceZ G tb 25600 (fz T)] 0 0 := by
  intro d
  induction d with
  | zero =>
    intro pv T hd hI
    have hz : pv = n := by omega
    subst hz
    refine vv_iload_n F zd_MO_closeAll_2 rfl 3 rfl ?_
    refine vv_iload_n F zd_MO_closeAll_3 rfl 2 rfl ?_
    refine vv_icmp_ge (tgt := 91) F zd_MO_closeAll_4 rfl (by first | exact ⟨by omega, by omega⟩) (by first | exact ⟨by omega, by omega⟩) (fun _ => ?_) (fun h9 => absurd h9 (by omega))
    exact k T hI
  | succ d ih =>
    intro pv T hd hI
    refine vv_iload_n F zd_MO_closeAll_2 rfl 3 rfl ?_
    refine vv_iload_n F zd_MO_closeAll_3 rfl 2 rfl ?_
    refine vv_icmp_ge (tgt := 91) F zd_MO_closeAll_4 rfl (by first | exact ⟨by omega, by omega⟩) (by first | exact ⟨by omega, by omega⟩) (fun h9 => absurd h9 (by omega)) (fun _ => ?_)
    refine vv_iconst F zd_MO_closeAll_7 ?_
    refine vv_istore (lv' := [(0, .ref mo), (1, .ref tb), (2, .int (iI n)), (3, .int (iI pv)), (4, .int (iI 0))]) F zd_MO_closeAll_8 (by decide) [1, 2, 3, 4, 0] rfl ?_
    refine lp_MO_c2 F mo tb n pv T hn ⟨by omega, by omega⟩ (fun U9 hJ => ?_) n.toNat 0 T (by omega) ⟨by omega, (pZ_0 _ _ _).symm⟩
    refine vv_iinc (j := 3) (lv' := [(0, .ref mo), (1, .ref tb), (2, .int (iI n)), (3, .int (iI (pv + 1))), (4, .int (iI n))]) F zd_MO_closeAll_85 rfl (by decide) [1, 2, 3, 0, 4] rfl ?_
    refine vv_goto (tgt := 2) F zd_MO_closeAll_88 rfl ?_
    refine vv_locals (lv' := [(0, .ref mo), (1, .ref tb), (2, .int (iI n)), (3, .int (iI (pv + 1)))]) [0, 1, 2, 3] rfl ?_
    exact ih (pv + 1) U9 (by omega) (⟨by omega, by rw [hJ.2, show (pv + 1).toNat = pv.toNat + 1 by omega]; exact wrs_s hI.2 (by omega)⟩)

set_option maxHeartbeats 4000000 in
set_option maxRecDepth 100000 in
theorem cn_MO_closeAll (l : Launch) (G : vv_G) (mo : Nat) (tb : Nat) (T : Nat → Nat → Bool) (n : Int) (hn : 0 ≤ n ∧ n ≤ 160) :
    vv_C l zy_MO_closeAll zc_MO_closeAll 6 none { frames := 1, cells := 0, slots := 0, locals := 21 } G [.ref mo, .ref tb, .int (iI n)] [ceZ G tb 25600 (fz T)] (fun v7 w7 => ∃ (T2 : Nat → Nat → Bool), (wrs n.toNat T T2 n.toNat) ∧ v7 = none ∧ w7 = [ceZ G tb 25600 (fz T2)]) := by
  refine vv_met (by decide +kernel) (Nat.le_of_ble_eq_true rfl) rfl ?_
  intro p e s m args below meth c A F
  refine vv_iconst F zd_MO_closeAll_0 ?_
  refine vv_istore_n (lv' := [(0, .ref mo), (1, .ref tb), (2, .int (iI n)), (3, .int (iI 0))]) F zd_MO_closeAll_1 rfl (by decide) [1, 2, 3, 0] rfl ?_
  refine lp_MO_c3 F mo tb n T hn (fun T2 hI => ?_) n.toNat 0 T (by omega) ⟨by omega, wrs_0⟩
  exact vv_vret F zd_MO_closeAll_91 ⟨T2, hI.2, rfl, rfl⟩

set_option maxHeartbeats 4000000 in
set_option maxRecDepth 100000 in
theorem cn_MO_areOne (l : Launch) (G : vv_G) (mo : Nat) (th : Int) (n : Int) (ac : Int) (tha : Nat) (gk : Bool) (rea : Nat) (poa : Nat) (mn : Int) (cha : Nat) (goa : Nat) (lea : Nat) (nv : Int) (mm : Int) (fia : Nat) (sea : Nat) (ck : Bool) (sta : Nat) (lda : Nat) (vla : Nat) (gd : Bool) (fl : Int) (dia : Nat) (qua : Nat) (H : Nat → Nat → Bool) (u : Int) (v : Int) (hu : 0 ≤ u ∧ u < 160) (hv : 0 ≤ v ∧ v < 160) :
    vv_D l zy_MO_areOne zc_MO_areOne 3 (some .boolean) { frames := 1, cells := 0, slots := 0, locals := 21 } G [.ref mo, .int (iI u), .int (iI v)] [ceO 7 mo [.int (iI th), .int (iI n), .int (iI ac), .ref tha, .int (iI (bZ gk)), .ref rea, .ref poa, .int (iI mn), .ref cha, .ref goa, .ref lea, .int (iI nv), .int (iI mm), .ref fia, .ref sea, .int (iI (bZ ck)), .ref sta, .ref lda, .ref vla, .int (iI (bZ gd)), .int (iI fl), .ref dia, .ref qua], ceZ G rea 25600 (fz H)] (some (.int (iI (bZ (H u.toNat v.toNat && H v.toNat u.toNat))))) [ceO 7 mo [.int (iI th), .int (iI n), .int (iI ac), .ref tha, .int (iI (bZ gk)), .ref rea, .ref poa, .int (iI mn), .ref cha, .ref goa, .ref lea, .int (iI nv), .int (iI mm), .ref fia, .ref sea, .int (iI (bZ ck)), .ref sta, .ref lda, .ref vla, .int (iI (bZ gd)), .int (iI fl), .ref dia, .ref qua], ceZ G rea 25600 (fz H)] := by
  refine vv_met (by decide +kernel) (Nat.le_of_ble_eq_true rfl) rfl ?_
  intro p e s m args below meth c A F
  refine vv_aload_n F zd_MO_areOne_0 rfl 0 rfl ?_
  refine vv_get F zd_MO_areOne_1 zf_MO 0 rfl rfl 5 (by decide) zw_761 rfl ?_
  refine vv_iload_n F zd_MO_areOne_4 rfl 1 rfl ?_
  refine vv_iload_n F zd_MO_areOne_5 rfl 2 rfl ?_
  refine vv_callS (As := [.int (iI u), .int (iI v)]) (rest := [.ref rea]) (wr := [ceO 7 mo [.int (iI th), .int (iI n), .int (iI ac), .ref tha, .int (iI (bZ gk)), .ref rea, .ref poa, .int (iI mn), .ref cha, .ref goa, .ref lea, .int (iI nv), .int (iI mm), .ref fia, .ref sea, .int (iI (bZ ck)), .ref sta, .ref lda, .ref vla, .int (iI (bZ gd)), .int (iI fl), .ref dia, .ref qua], ceZ G rea 25600 (fz H)]) F (cn_MO_cell l G u v) zm_MO_cell zw_844 zw_843 zd_MO_areOne_6 ⟨by decide, by decide⟩ ⟨by decide, by decide⟩ [] [0, 1] rfl rfl ⟨rfl, rfl, by decide⟩ rfl rfl (Nat.le_of_ble_eq_true rfl) (vv_then (ws' := [ceO 7 mo [.int (iI th), .int (iI n), .int (iI ac), .ref tha, .int (iI (bZ gk)), .ref rea, .ref poa, .int (iI mn), .ref cha, .ref goa, .ref lea, .int (iI nv), .int (iI mm), .ref fia, .ref sea, .int (iI (bZ ck)), .ref sta, .ref lda, .ref vla, .int (iI (bZ gd)), .int (iI fl), .ref dia, .ref qua], ceZ G rea 25600 (fz H)]) (st' := [.int (iI (160 * u + v)), .ref rea]) [0, 1] rfl rfl rfl ?_)
  refine vv_zald F zd_MO_areOne_9 1 rfl ⟨by omega, by omega⟩ (by decide) ?_
  refine vv_ti (congrArg bZ (fzI (B := H) (u := u) (v := v) (by omega) ⟨by omega, by omega⟩)) ?_
  refine vv_if_eq (tgt := 30) F zd_MO_areOne_10 rfl (bZ_rg _) (fun h1 => ?_) (fun h1 => ?_)
  · have h1 : (H u.toNat v.toNat) = false := (bZ_0 _).mp h1
    refine vv_iconst F zd_MO_areOne_30 ?_
    exact vv_zret (v := false) F zd_MO_areOne_31 ⟨by rw [h1]; rfl, rfl⟩
  · have h1 : (H u.toNat v.toNat) = true := by cases hb9 : (H u.toNat v.toNat) with | true => rfl | false => exact absurd ((bZ_0 _).mpr hb9) h1
    refine vv_aload_n F zd_MO_areOne_13 rfl 0 rfl ?_
    refine vv_get F zd_MO_areOne_14 zf_MO 0 rfl rfl 5 (by decide) zw_761 rfl ?_
    refine vv_iload_n F zd_MO_areOne_17 rfl 2 rfl ?_
    refine vv_iload_n F zd_MO_areOne_18 rfl 1 rfl ?_
    refine vv_callS (As := [.int (iI v), .int (iI u)]) (rest := [.ref rea]) (wr := [ceO 7 mo [.int (iI th), .int (iI n), .int (iI ac), .ref tha, .int (iI (bZ gk)), .ref rea, .ref poa, .int (iI mn), .ref cha, .ref goa, .ref lea, .int (iI nv), .int (iI mm), .ref fia, .ref sea, .int (iI (bZ ck)), .ref sta, .ref lda, .ref vla, .int (iI (bZ gd)), .int (iI fl), .ref dia, .ref qua], ceZ G rea 25600 (fz H)]) F (cn_MO_cell l G v u) zm_MO_cell zw_844 zw_843 zd_MO_areOne_19 ⟨by decide, by decide⟩ ⟨by decide, by decide⟩ [] [0, 1] rfl rfl ⟨rfl, rfl, by decide⟩ rfl rfl (Nat.le_of_ble_eq_true rfl) (vv_then (ws' := [ceO 7 mo [.int (iI th), .int (iI n), .int (iI ac), .ref tha, .int (iI (bZ gk)), .ref rea, .ref poa, .int (iI mn), .ref cha, .ref goa, .ref lea, .int (iI nv), .int (iI mm), .ref fia, .ref sea, .int (iI (bZ ck)), .ref sta, .ref lda, .ref vla, .int (iI (bZ gd)), .int (iI fl), .ref dia, .ref qua], ceZ G rea 25600 (fz H)]) (st' := [.int (iI (160 * v + u)), .ref rea]) [0, 1] rfl rfl rfl ?_)
    refine vv_zald F zd_MO_areOne_22 1 rfl ⟨by omega, by omega⟩ (by decide) ?_
    refine vv_ti (congrArg bZ (fzI (B := H) (u := v) (v := u) (by omega) ⟨by omega, by omega⟩)) ?_
    refine vv_if_eq (tgt := 30) F zd_MO_areOne_23 rfl (bZ_rg _) (fun h2 => ?_) (fun h2 => ?_)
    · have h2 : (H v.toNat u.toNat) = false := (bZ_0 _).mp h2
      refine vv_iconst F zd_MO_areOne_30 ?_
      exact vv_zret (v := false) F zd_MO_areOne_31 ⟨by rw [h2, Bool.and_false], rfl⟩
    · have h2 : (H v.toNat u.toNat) = true := by cases hb9 : (H v.toNat u.toNat) with | true => rfl | false => exact absurd ((bZ_0 _).mpr hb9) h2
      refine vv_iconst F zd_MO_areOne_26 ?_
      refine vv_goto (tgt := 31) F zd_MO_areOne_27 rfl ?_
      exact vv_zret (v := true) F zd_MO_areOne_31 ⟨by rw [h1, h2]; rfl, rfl⟩

set_option maxHeartbeats 4000000 in
set_option maxRecDepth 100000 in
theorem cn_MO_goesTo (l : Launch) (G : vv_G) (mo : Nat) (th : Int) (n : Int) (ac : Int) (tha : Nat) (gk : Bool) (rea : Nat) (poa : Nat) (mn : Int) (cha : Nat) (goa : Nat) (lea : Nat) (nv : Int) (mm : Int) (fia : Nat) (sea : Nat) (ck : Bool) (sta : Nat) (lda : Nat) (vla : Nat) (gd : Bool) (fl : Int) (dia : Nat) (qua : Nat) (D : Nat → Nat → Bool) (u : Int) (v : Int) (hu : 0 ≤ u ∧ u < 160) (hv : 0 ≤ v ∧ v < 160) :
    vv_D l zy_MO_goesTo zc_MO_goesTo 3 (some .boolean) { frames := 1, cells := 0, slots := 0, locals := 21 } G [.ref mo, .int (iI u), .int (iI v)] [ceO 7 mo [.int (iI th), .int (iI n), .int (iI ac), .ref tha, .int (iI (bZ gk)), .ref rea, .ref poa, .int (iI mn), .ref cha, .ref goa, .ref lea, .int (iI nv), .int (iI mm), .ref fia, .ref sea, .int (iI (bZ ck)), .ref sta, .ref lda, .ref vla, .int (iI (bZ gd)), .int (iI fl), .ref dia, .ref qua], ceZ G goa 25600 (fz D)] (some (.int (iI (bZ (D u.toNat v.toNat))))) [ceO 7 mo [.int (iI th), .int (iI n), .int (iI ac), .ref tha, .int (iI (bZ gk)), .ref rea, .ref poa, .int (iI mn), .ref cha, .ref goa, .ref lea, .int (iI nv), .int (iI mm), .ref fia, .ref sea, .int (iI (bZ ck)), .ref sta, .ref lda, .ref vla, .int (iI (bZ gd)), .int (iI fl), .ref dia, .ref qua], ceZ G goa 25600 (fz D)] := by
  refine vv_met (by decide +kernel) (Nat.le_of_ble_eq_true rfl) rfl ?_
  intro p e s m args below meth c A F
  refine vv_aload_n F zd_MO_goesTo_0 rfl 0 rfl ?_
  refine vv_get F zd_MO_goesTo_1 zf_MO 0 rfl rfl 9 (by decide) zw_765 rfl ?_
  refine vv_iload_n F zd_MO_goesTo_4 rfl 1 rfl ?_
  refine vv_iload_n F zd_MO_goesTo_5 rfl 2 rfl ?_
  refine vv_callS (As := [.int (iI u), .int (iI v)]) (rest := [.ref goa]) (wr := [ceO 7 mo [.int (iI th), .int (iI n), .int (iI ac), .ref tha, .int (iI (bZ gk)), .ref rea, .ref poa, .int (iI mn), .ref cha, .ref goa, .ref lea, .int (iI nv), .int (iI mm), .ref fia, .ref sea, .int (iI (bZ ck)), .ref sta, .ref lda, .ref vla, .int (iI (bZ gd)), .int (iI fl), .ref dia, .ref qua], ceZ G goa 25600 (fz D)]) F (cn_MO_cell l G u v) zm_MO_cell zw_844 zw_843 zd_MO_goesTo_6 ⟨by decide, by decide⟩ ⟨by decide, by decide⟩ [] [0, 1] rfl rfl ⟨rfl, rfl, by decide⟩ rfl rfl (Nat.le_of_ble_eq_true rfl) (vv_then (ws' := [ceO 7 mo [.int (iI th), .int (iI n), .int (iI ac), .ref tha, .int (iI (bZ gk)), .ref rea, .ref poa, .int (iI mn), .ref cha, .ref goa, .ref lea, .int (iI nv), .int (iI mm), .ref fia, .ref sea, .int (iI (bZ ck)), .ref sta, .ref lda, .ref vla, .int (iI (bZ gd)), .int (iI fl), .ref dia, .ref qua], ceZ G goa 25600 (fz D)]) (st' := [.int (iI (160 * u + v)), .ref goa]) [0, 1] rfl rfl rfl ?_)
  refine vv_zald F zd_MO_goesTo_9 1 rfl ⟨by omega, by omega⟩ (by decide) ?_
  refine vv_ti (congrArg bZ (fzI (B := D) (u := u) (v := v) (by omega) ⟨by omega, by omega⟩)) ?_
  exact vv_zret F zd_MO_goesTo_10 ⟨rfl, rfl⟩
