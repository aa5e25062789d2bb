set_option maxHeartbeats 4000000 in
set_option maxRecDepth 100000 in
theorem lp_MO_w0 {p : Program} {l : Launch} {e : Env} {s : State} {m : MethodId} {args : Array Value} {below : List Frame} {meth : Method} {c : Code} {A : Nat → Prop} {Q : State → Prop} {G : vv_G} (F : vv_F p s m args meth c zc_MO_walkFrom "ClauseGraphModel" "walkFrom" none G A 8) (mo : Nat) (th : Int) (n : Int) (ac : Int) (tha : Nat) (gk : Bool) (rea : Nat) (poa : Nat) (mn : Int) (cha : Nat) (goa : Nat) (lea : Nat) (nv : Int) (mm : Int) (fia : Nat) (sea : Nat) (ck : Bool) (sta : Nat) (lda : Nat) (vla : Nat) (gd : Bool) (fl : Int) (dia : Nat) (qua : Nat) (tb : Nat) (T : Nat → Nat → Bool) (nq : Int) (u : Int) (hq : 1 ≤ nq ∧ nq ≤ 160) (hu : 0 ≤ u ∧ u < nq) (hT : ∀ x y, T x y = true → x < nq.toNat ∧ y < nq.toNat)
    (k : ∀ (w : Int) (Di : Nat → Int) (Qu : Nat → Int), (0 ≤ nq ∧ (0 ≤ w ∧ w ≤ nq) ∧ mb0 T u.toNat Di Qu w.toNat nq.toNat) → vv_V p l e { frames := 1, cells := 0, slots := 0, locals := 21 } s m args below meth c G A 8 Q 58 [(0, .ref mo), (1, .ref tb), (2, .int (iI nq)), (3, .int (iI u)), (4, .int (iI w)), (5, .int (iI nq))] [] [ceO 7 mo [.int (iI th), .int (iI n), .int (iI ac), .ref tha, .int (iI (bZ gk)), .ref rea, .ref poa, .int (iI mn), .ref cha, .ref goa, .ref lea, .int (iI nv), .int (iI mm), .ref fia, .ref sea, .int (iI (bZ ck)), .ref sta, .ref lda, .ref vla, .int (iI (bZ gd)), .int (iI fl), .ref dia, .ref qua], ceZ G tb 25600 (fz T), ceI G dia 160 Di, ceI G qua 160 Qu] 0 0)  :
    ∀ (d : Nat) (i : Int) (w : Int) (Di : Nat → Int) (Qu : Nat → Int), i + (d : Int) = nq → (0 ≤ i ∧ (0 ≤ w ∧ w ≤ i) ∧ mb0 T u.toNat Di Qu w.toNat i.toNat) → vv_V p l e { frames := 1, cells := 0, slots := 0, locals := 21 } s m args below meth c G A 8 Q 6 [(0, .ref mo), (1, .ref tb), (2, .int (iI nq)), (3, .int (iI u)), (4, .int (iI w)), (5, .int (iI i))] [] [ceO 7 mo [.int (iI th), .int (iI n), .int (iI ac), .ref tha, .int (iI (bZ gk)), .ref rea, .ref poa, .int (iI mn), .ref cha, .ref goa, .ref lea, .int (iI nv), .int (iI mm), .ref fia, .ref sea, .int (iI (bZ ck)), .ref sta, .ref lda, .ref vla, .int (iI (bZ gd)), .int (iI fl), .ref dia, .ref qua], ceZ G tb 25600 (fz T), ceI G dia 160 Di, ceI G qua 160 Qu] 0 0 := by
  intro d
  induction d with
  | zero =>
    intro i w Di Qu hd hI
    have hz : i = nq := by omega
    subst hz
    refine vv_iload F zd_MO_walkFrom_6 5 rfl ?_
    refine vv_iload_n F zd_MO_walkFrom_8 rfl 2 rfl ?_
    refine vv_icmp_ge (tgt := 58) F zd_MO_walkFrom_9 rfl (by first | exact ⟨by omega, by omega⟩) (by first | exact ⟨by omega, by omega⟩) (fun _ => ?_) (fun h9 => absurd h9 (by omega))
    exact k w Di Qu hI
  | succ d ih =>
    intro i w Di Qu hd hI
    refine vv_iload F zd_MO_walkFrom_6 5 rfl ?_
    refine vv_iload_n F zd_MO_walkFrom_8 rfl 2 rfl ?_
    refine vv_icmp_ge (tgt := 58) F zd_MO_walkFrom_9 rfl (by first | exact ⟨by omega, by omega⟩) (by first | exact ⟨by omega, by omega⟩) (fun h9 => absurd h9 (by omega)) (fun _ => ?_)
    refine vv_aload_n F zd_MO_walkFrom_12 rfl 0 rfl ?_
    refine vv_get F zd_MO_walkFrom_13 zf_MO 0 rfl rfl 21 (by decide) zw_777 rfl ?_
    refine vv_iload F zd_MO_walkFrom_16 5 rfl ?_
    refine vv_ldc (z := 100000) F zd_MO_walkFrom_18 zw_910 (by decide) ?_
    refine vv_iast (x := 100000) (ws' := [ceO 7 mo [.int (iI th), .int (iI n), .int (iI ac), .ref tha, .int (iI (bZ gk)), .ref rea, .ref poa, .int (iI mn), .ref cha, .ref goa, .ref lea, .int (iI nv), .int (iI mm), .ref fia, .ref sea, .int (iI (bZ ck)), .ref sta, .ref lda, .ref vla, .int (iI (bZ gd)), .int (iI fl), .ref dia, .ref qua], ceZ G tb 25600 (fz T), ceI G dia 160 (va_up Di i.toNat 100000), ceI G qua 160 Qu]) F zd_MO_walkFrom_20 2 rfl ⟨by omega, by omega⟩ (by decide) rfl ?_
    refine vv_aload_n F zd_MO_walkFrom_21 rfl 1 rfl ?_
    refine vv_iload_n F zd_MO_walkFrom_22 rfl 3 rfl ?_
    refine vv_iload F zd_MO_walkFrom_23 5 rfl ?_
    refine vv_callS (As := [.int (iI u), .int (iI i)]) (rest := [.ref tb]) (wr := [ceO 7 mo [.int (iI th), .int (iI n), .int (iI ac), .ref tha, .int (iI (bZ gk)), .ref rea, .ref poa, .int (iI mn), .ref cha, .ref goa, .ref lea, .int (iI nv), .int (iI mm), .ref fia, .ref sea, .int (iI (bZ ck)), .ref sta, .ref lda, .ref vla, .int (iI (bZ gd)), .int (iI fl), .ref dia, .ref qua], ceZ G tb 25600 (fz T), ceI G dia 160 (va_up Di i.toNat 100000), ceI G qua 160 Qu]) F (cn_MO_cell l G u i) zm_MO_cell zw_844 zw_843 zd_MO_walkFrom_25 ⟨by decide, by decide⟩ ⟨by decide, by decide⟩ [] [0, 1, 2, 3] rfl rfl ⟨rfl, rfl, by decide⟩ rfl rfl (Nat.le_of_ble_eq_true rfl) (vv_then (ws' := [ceO 7 mo [.int (iI th), .int (iI n), .int (iI ac), .ref tha, .int (iI (bZ gk)), .ref rea, .ref poa, .int (iI mn), .ref cha, .ref goa, .ref lea, .int (iI nv), .int (iI mm), .ref fia, .ref sea, .int (iI (bZ ck)), .ref sta, .ref lda, .ref vla, .int (iI (bZ gd)), .int (iI fl), .ref dia, .ref qua], ceZ G tb 25600 (fz T), ceI G dia 160 (va_up Di i.toNat 100000), ceI G qua 160 Qu]) (st' := [.int (iI (160 * u + i)), .ref tb]) [0, 1, 2, 3] rfl rfl rfl ?_)
    refine vv_zald F zd_MO_walkFrom_28 1 rfl ⟨by omega, by omega⟩ (by decide) ?_
    refine vv_ti (congrArg bZ (fzI (B := T) (u := u) (v := i) (by omega) ⟨by omega, by omega⟩)) ?_
    refine vv_if_eq (tgt := 52) F zd_MO_walkFrom_29 rfl (bZ_rg _) (fun h1 => ?_) (fun h1 => ?_)
    · have h1 : (T u.toNat i.toNat) = false := (bZ_0 _).mp h1
      refine vv_iinc (j := 5) (lv' := [(0, .ref mo), (1, .ref tb), (2, .int (iI nq)), (3, .int (iI u)), (4, .int (iI w)), (5, .int (iI (i + 1)))]) F zd_MO_walkFrom_52 rfl (by decide) [1, 2, 3, 4, 5, 0] rfl ?_
      refine vv_goto (tgt := 6) F zd_MO_walkFrom_55 rfl ?_
      exact ih (i + 1) w (va_up Di i.toNat 100000) Qu (by omega) (⟨by omega, ⟨by omega, by omega⟩, by rw [show (i + 1).toNat = i.toNat + 1 by omega]; exact mb0_no hI.2.2 h1⟩)
    · have h1 : (T u.toNat i.toNat) = true := by cases hb9 : (T u.toNat i.toNat) with | true => rfl | false => exact absurd ((bZ_0 _).mpr hb9) h1
      refine vv_aload_n F zd_MO_walkFrom_32 rfl 0 rfl ?_
      refine vv_get F zd_MO_walkFrom_33 zf_MO 0 rfl rfl 21 (by decide) zw_777 rfl ?_
      refine vv_iload F zd_MO_walkFrom_36 5 rfl ?_
      refine vv_iconst F zd_MO_walkFrom_38 ?_
      refine vv_iast (x := 1) (ws' := [ceO 7 mo [.int (iI th), .int (iI n), .int (iI ac), .ref tha, .int (iI (bZ gk)), .ref rea, .ref poa, .int (iI mn), .ref cha, .ref goa, .ref lea, .int (iI nv), .int (iI mm), .ref fia, .ref sea, .int (iI (bZ ck)), .ref sta, .ref lda, .ref vla, .int (iI (bZ gd)), .int (iI fl), .ref dia, .ref qua], ceZ G tb 25600 (fz T), ceI G dia 160 (va_up (va_up Di i.toNat 100000) i.toNat 1), ceI G qua 160 Qu]) F zd_MO_walkFrom_39 2 rfl ⟨by omega, by omega⟩ (by decide) rfl ?_
      refine vv_aload_n F zd_MO_walkFrom_40 rfl 0 rfl ?_
      refine vv_get F zd_MO_walkFrom_41 zf_MO 0 rfl rfl 22 (by decide) zw_778 rfl ?_
      refine vv_iload F zd_MO_walkFrom_44 4 rfl ?_
      refine vv_iload F zd_MO_walkFrom_46 5 rfl ?_
      refine vv_iast (x := i) (ws' := [ceO 7 mo [.int (iI th), .int (iI n), .int (iI ac), .ref tha, .int (iI (bZ gk)), .ref rea, .ref poa, .int (iI mn), .ref cha, .ref goa, .ref lea, .int (iI nv), .int (iI mm), .ref fia, .ref sea, .int (iI (bZ ck)), .ref sta, .ref lda, .ref vla, .int (iI (bZ gd)), .int (iI fl), .ref dia, .ref qua], ceZ G tb 25600 (fz T), ceI G dia 160 (va_up (va_up Di i.toNat 100000) i.toNat 1), ceI G qua 160 (va_up Qu w.toNat i)]) F zd_MO_walkFrom_48 3 rfl ⟨by omega, by omega⟩ (by decide) rfl ?_
      refine vv_iinc (j := 4) (lv' := [(0, .ref mo), (1, .ref tb), (2, .int (iI nq)), (3, .int (iI u)), (4, .int (iI (w + 1))), (5, .int (iI i))]) F zd_MO_walkFrom_49 rfl (by decide) [1, 2, 3, 4, 0, 5] rfl ?_
      refine vv_iinc (j := 5) (lv' := [(0, .ref mo), (1, .ref tb), (2, .int (iI nq)), (3, .int (iI u)), (4, .int (iI (w + 1))), (5, .int (iI (i + 1)))]) F zd_MO_walkFrom_52 rfl (by decide) [1, 2, 3, 4, 5, 0] rfl ?_
      refine vv_goto (tgt := 6) F zd_MO_walkFrom_55 rfl ?_
      exact ih (i + 1) (w + 1) (va_up (va_up Di i.toNat 100000) i.toNat 1) (va_up Qu w.toNat i) (by omega) (⟨by omega, ⟨by omega, by omega⟩, by have h9 := mb0_yes hI.2.2 h1; rw [show ((i.toNat : Nat) : Int) = i by omega] at h9; rw [show (i + 1).toNat = i.toNat + 1 by omega, show (w + 1).toNat = w.toNat + 1 by omega]; exact h9⟩)

set_option maxHeartbeats 4000000 in
set_option maxRecDepth 100000 in
theorem lp_MO_w1 {p : Program} {l : Launch} {e : Env} {s : State} {m : MethodId} {args : Array Value} {below : List Frame} {meth : Method} {c : Code} {A : Nat → Prop} {Q : State → Prop} {G : vv_G} (F : vv_F p s m args meth c zc_MO_walkFrom "ClauseGraphModel" "walkFrom" none G A 8) (mo : Nat) (th : Int) (n : Int) (ac : Int) (tha : Nat) (gk : Bool) (rea : Nat) (poa : Nat) (mn : Int) (cha : Nat) (goa : Nat) (lea : Nat) (nv : Int) (mm : Int) (fia : Nat) (sea : Nat) (ck : Bool) (sta : Nat) (lda : Nat) (vla : Nat) (gd : Bool) (fl : Int) (dia : Nat) (qua : Nat) (tb : Nat) (T : Nat → Nat → Bool) (nq : Int) (u : Int) (i : Int) (a : Int) (hq : 1 ≤ nq ∧ nq ≤ 160) (hu : 0 ≤ u ∧ u < nq) (hT : ∀ x y, T x y = true → x < nq.toNat ∧ y < nq.toNat)
    (k : ∀ (w : Int) (Di : Nat → Int) (Qu : Nat → Int), (0 ≤ nq ∧ (0 ≤ i ∧ i < w) ∧ Qu i.toNat = a ∧ mbf T nq.toNat u.toNat Di Qu w.toNat i.toNat nq.toNat) → vv_V p l e { frames := 1, cells := 0, slots := 0, locals := 21 } s m args below meth c G A 8 Q 144 [(0, .ref mo), (1, .ref tb), (2, .int (iI nq)), (3, .int (iI u)), (4, .int (iI w)), (5, .int (iI i)), (6, .int (iI a)), (7, .int (iI nq))] [] [ceO 7 mo [.int (iI th), .int (iI n), .int (iI ac), .ref tha, .int (iI (bZ gk)), .ref rea, .ref poa, .int (iI mn), .ref cha, .ref goa, .ref lea, .int (iI nv), .int (iI mm), .ref fia, .ref sea, .int (iI (bZ ck)), .ref sta, .ref lda, .ref vla, .int (iI (bZ gd)), .int (iI fl), .ref dia, .ref qua], ceZ G tb 25600 (fz T), ceI G dia 160 Di, ceI G qua 160 Qu] 0 0)  :
    ∀ (d : Nat) (j : Int) (w : Int) (Di : Nat → Int) (Qu : Nat → Int), j + (d : Int) = nq → (0 ≤ j ∧ (0 ≤ i ∧ i < w) ∧ Qu i.toNat = a ∧ mbf T nq.toNat u.toNat Di Qu w.toNat i.toNat j.toNat) → vv_V p l e { frames := 1, cells := 0, slots := 0, locals := 21 } s m args below meth c G A 8 Q 80 [(0, .ref mo), (1, .ref tb), (2, .int (iI nq)), (3, .int (iI u)), (4, .int (iI w)), (5, .int (iI i)), (6, .int (iI a)), (7, .int (iI j))] [] [ceO 7 mo [.int (iI th), .int (iI n), .int (iI ac), .ref tha, .int (iI (bZ gk)), .ref rea, .ref poa, .int (iI mn), .ref cha, .ref goa, .ref lea, .int (iI nv), .int (iI mm), .ref fia, .ref sea, .int (iI (bZ ck)), .ref sta, .ref lda, .ref vla, .int (iI (bZ gd)), .int (iI fl), .ref dia, .ref qua], ceZ G tb 25600 (fz T), ceI G dia 160 Di, ceI G qua 160 Qu] 0 0 := by
  intro d
  induction d with
  | zero =>
    intro j w Di Qu hd hI
    have hz : j = nq := by omega
    subst hz
    refine vv_iload F zd_MO_walkFrom_80 7 rfl ?_
    refine vv_iload_n F zd_MO_walkFrom_82 rfl 2 rfl ?_
    refine vv_icmp_ge (tgt := 144) F zd_MO_walkFrom_83 rfl (by first | exact ⟨by omega, by omega⟩) (by first | exact ⟨by omega, by omega⟩) (fun _ => ?_) (fun h9 => absurd h9 (by omega))
    exact k w Di Qu hI
  | succ d ih =>
    intro j w Di Qu hd hI
    obtain ⟨p9, r1, r2, r3, r4⟩ := hI.2.2.2.2.1 i.toNat (by omega)
    have r5 := mbf_rg hI.2.2.2 (by omega) (y := j.toNat) (by omega)
    have he := hI.2.2.1
    have hw9 : w.toNat ≤ nq.toNat := by have h9 := hI.2.2.2.1; rw [h9]; exact cN_le _ _
    refine vv_iload F zd_MO_walkFrom_80 7 rfl ?_
    refine vv_iload_n F zd_MO_walkFrom_82 rfl 2 rfl ?_
    refine vv_icmp_ge (tgt := 144) F zd_MO_walkFrom_83 rfl (by first | exact ⟨by omega, by omega⟩) (by first | exact ⟨by omega, by omega⟩) (fun h9 => absurd h9 (by omega)) (fun _ => ?_)
    refine vv_aload_n F zd_MO_walkFrom_86 rfl 1 rfl ?_
    refine vv_iload F zd_MO_walkFrom_87 6 rfl ?_
    refine vv_iload F zd_MO_walkFrom_89 7 rfl ?_
    refine vv_callS (As := [.int (iI a), .int (iI j)]) (rest := [.ref tb]) (wr := [ceO 7 mo [.int (iI th), .int (iI n), .int (iI ac), .ref tha, .int (iI (bZ gk)), .ref rea, .ref poa, .int (iI mn), .ref cha, .ref goa, .ref lea, .int (iI nv), .int (iI mm), .ref fia, .ref sea, .int (iI (bZ ck)), .ref sta, .ref lda, .ref vla, .int (iI (bZ gd)), .int (iI fl), .ref dia, .ref qua], ceZ G tb 25600 (fz T), ceI G dia 160 Di, ceI G qua 160 Qu]) F (cn_MO_cell l G a j) zm_MO_cell zw_844 zw_843 zd_MO_walkFrom_91 ⟨by decide, by decide⟩ ⟨by decide, by decide⟩ [] [0, 1, 2, 3] rfl rfl ⟨rfl, rfl, by decide⟩ rfl rfl (Nat.le_of_ble_eq_true rfl) (vv_then (ws' := [ceO 7 mo [.int (iI th), .int (iI n), .int (iI ac), .ref tha, .int (iI (bZ gk)), .ref rea, .ref poa, .int (iI mn), .ref cha, .ref goa, .ref lea, .int (iI nv), .int (iI mm), .ref fia, .ref sea, .int (iI (bZ ck)), .ref sta, .ref lda, .ref vla, .int (iI (bZ gd)), .int (iI fl), .ref dia, .ref qua], ceZ G tb 25600 (fz T), ceI G dia 160 Di, ceI G qua 160 Qu]) (st' := [.int (iI (160 * a + j)), .ref tb]) [0, 1, 2, 3] rfl rfl rfl ?_)
    refine vv_zald F zd_MO_walkFrom_94 1 rfl ⟨by omega, by omega⟩ (by decide) ?_
    refine vv_ti (congrArg bZ (fzI (B := T) (u := a) (v := j) (by omega) ⟨by omega, by omega⟩)) ?_
    refine vv_if_eq (tgt := 138) F zd_MO_walkFrom_95 rfl (bZ_rg _) (fun h1 => ?_) (fun h1 => ?_)
    · have h1 : (T a.toNat j.toNat) = false := (bZ_0 _).mp h1
      refine vv_iinc (j := 7) (lv' := [(0, .ref mo), (1, .ref tb), (2, .int (iI nq)), (3, .int (iI u)), (4, .int (iI w)), (5, .int (iI i)), (6, .int (iI a)), (7, .int (iI (j + 1)))]) F zd_MO_walkFrom_138 rfl (by decide) [1, 2, 3, 4, 5, 6, 7, 0] rfl ?_
      refine vv_goto (tgt := 80) F zd_MO_walkFrom_141 rfl ?_
      exact ih (j + 1) w Di Qu (by omega) (⟨by omega, ⟨by omega, by omega⟩, he, by rw [show (j + 1).toNat = j.toNat + 1 by omega]; exact mbf_skip hI.2.2.2 (by rw [he]; exact h1)⟩)
    · have h1 : (T a.toNat j.toNat) = true := by cases hb9 : (T a.toNat j.toNat) with | true => rfl | false => exact absurd ((bZ_0 _).mpr hb9) h1
      refine vv_aload_n F zd_MO_walkFrom_98 rfl 0 rfl ?_
      refine vv_get F zd_MO_walkFrom_99 zf_MO 0 rfl rfl 21 (by decide) zw_777 rfl ?_
      refine vv_iload F zd_MO_walkFrom_102 7 rfl ?_
      refine vv_iald F zd_MO_walkFrom_104 2 rfl ⟨by omega, by omega⟩ (by decide) ?_
      refine vv_ldc (z := 100000) F zd_MO_walkFrom_105 zw_910 (by decide) ?_
      refine vv_icmp_ne (tgt := 138) F zd_MO_walkFrom_107 rfl (by first | exact ⟨by omega, by omega⟩) (by decide) (fun h2 => ?_) (fun h2 => ?_)
      · refine vv_iinc (j := 7) (lv' := [(0, .ref mo), (1, .ref tb), (2, .int (iI nq)), (3, .int (iI u)), (4, .int (iI w)), (5, .int (iI i)), (6, .int (iI a)), (7, .int (iI (j + 1)))]) F zd_MO_walkFrom_138 rfl (by decide) [1, 2, 3, 4, 5, 6, 7, 0] rfl ?_
        refine vv_goto (tgt := 80) F zd_MO_walkFrom_141 rfl ?_
        exact ih (j + 1) w Di Qu (by omega) (⟨by omega, ⟨by omega, by omega⟩, he, by rw [show (j + 1).toNat = j.toNat + 1 by omega]; exact mbf_old hI.2.2.2 (by omega) (by omega)⟩)
      · have h9 := mbf_put hI.2.2.2 (by omega) (by omega) (by omega) (by rw [he]; exact h1) h2
        have h8 : w.toNat + 1 ≤ nq.toNat := by rw [h9.1]; exact cN_le _ _
        rw [he, show ((j.toNat : Nat) : Int) = j by omega] at h9
        refine vv_aload_n F zd_MO_walkFrom_110 rfl 0 rfl ?_
        refine vv_get F zd_MO_walkFrom_111 zf_MO 0 rfl rfl 21 (by decide) zw_777 rfl ?_
        refine vv_iload F zd_MO_walkFrom_114 7 rfl ?_
        refine vv_aload_n F zd_MO_walkFrom_116 rfl 0 rfl ?_
        refine vv_get F zd_MO_walkFrom_117 zf_MO 0 rfl rfl 21 (by decide) zw_777 rfl ?_
        refine vv_iload F zd_MO_walkFrom_120 6 rfl ?_
        refine vv_iald F zd_MO_walkFrom_122 2 rfl ⟨by omega, by omega⟩ (by decide) ?_
        refine vv_iconst F zd_MO_walkFrom_123 ?_
        refine vv_iadd F zd_MO_walkFrom_124 ?_
        refine vv_iast (x := (Di a.toNat) + 1) (ws' := [ceO 7 mo [.int (iI th), .int (iI n), .int (iI ac), .ref tha, .int (iI (bZ gk)), .ref rea, .ref poa, .int (iI mn), .ref cha, .ref goa, .ref lea, .int (iI nv), .int (iI mm), .ref fia, .ref sea, .int (iI (bZ ck)), .ref sta, .ref lda, .ref vla, .int (iI (bZ gd)), .int (iI fl), .ref dia, .ref qua], ceZ G tb 25600 (fz T), ceI G dia 160 (va_up Di j.toNat ((Di a.toNat) + 1)), ceI G qua 160 Qu]) F zd_MO_walkFrom_125 2 rfl ⟨by omega, by omega⟩ (by decide) rfl ?_
        refine vv_aload_n F zd_MO_walkFrom_126 rfl 0 rfl ?_
        refine vv_get F zd_MO_walkFrom_127 zf_MO 0 rfl rfl 22 (by decide) zw_778 rfl ?_
        refine vv_iload F zd_MO_walkFrom_130 4 rfl ?_
        refine vv_iload F zd_MO_walkFrom_132 7 rfl ?_
        refine vv_iast (x := j) (ws' := [ceO 7 mo [.int (iI th), .int (iI n), .int (iI ac), .ref tha, .int (iI (bZ gk)), .ref rea, .ref poa, .int (iI mn), .ref cha, .ref goa, .ref lea, .int (iI nv), .int (iI mm), .ref fia, .ref sea, .int (iI (bZ ck)), .ref sta, .ref lda, .ref vla, .int (iI (bZ gd)), .int (iI fl), .ref dia, .ref qua], ceZ G tb 25600 (fz T), ceI G dia 160 (va_up Di j.toNat ((Di a.toNat) + 1)), ceI G qua 160 (va_up Qu w.toNat j)]) F zd_MO_walkFrom_134 3 rfl ⟨by omega, by omega⟩ (by decide) rfl ?_
        refine vv_iinc (j := 4) (lv' := [(0, .ref mo), (1, .ref tb), (2, .int (iI nq)), (3, .int (iI u)), (4, .int (iI (w + 1))), (5, .int (iI i)), (6, .int (iI a)), (7, .int (iI j))]) F zd_MO_walkFrom_135 rfl (by decide) [1, 2, 3, 4, 0, 5, 6, 7] rfl ?_
        refine vv_iinc (j := 7) (lv' := [(0, .ref mo), (1, .ref tb), (2, .int (iI nq)), (3, .int (iI u)), (4, .int (iI (w + 1))), (5, .int (iI i)), (6, .int (iI a)), (7, .int (iI (j + 1)))]) F zd_MO_walkFrom_138 rfl (by decide) [1, 2, 3, 4, 5, 6, 7, 0] rfl ?_
        refine vv_goto (tgt := 80) F zd_MO_walkFrom_141 rfl ?_
        exact ih (j + 1) (w + 1) (va_up Di j.toNat ((Di a.toNat) + 1)) (va_up Qu w.toNat j) (by omega) (⟨by omega, ⟨by omega, by omega⟩, by rw [va_up_ne _ _ (by omega)]; exact he, by rw [show (j + 1).toNat = j.toNat + 1 by omega, show (w + 1).toNat = w.toNat + 1 by omega]; exact h9⟩)

set_option maxHeartbeats 4000000 in
set_option maxRecDepth 100000 in
theorem lp_MO_w2 {p : Program} {l : Launch} {e : Env} {s : State} {m : MethodId} {args : Array Value} {below : List Frame} {meth : Method} {c : Code} {A : Nat → Prop} {Q : State → Prop} {G : vv_G} (F : vv_F p s m args meth c zc_MO_walkFrom "ClauseGraphModel" "walkFrom" none G A 8) (mo : Nat) (th : Int) (n : Int) (ac : Int) (tha : Nat) (gk : Bool) (rea : Nat) (poa : Nat) (mn : Int) (cha : Nat) (goa : Nat) (lea : Nat) (nv : Int) (mm : Int) (fia : Nat) (sea : Nat) (ck : Bool) (sta : Nat) (lda : Nat) (vla : Nat) (gd : Bool) (fl : Int) (dia : Nat) (qua : Nat) (tb : Nat) (T : Nat → Nat → Bool) (nq : Int) (u : Int) (hq : 1 ≤ nq ∧ nq ≤ 160) (hu : 0 ≤ u ∧ u < nq) (hT : ∀ x y, T x y = true → x < nq.toNat ∧ y < nq.toNat)
    (k : ∀ (Di Qu : Nat → Int), mwd T nq.toNat u.toNat Di → vv_V p l e { frames := 1, cells := 0, slots := 0, locals := 21 } s m args below meth c G A 8 Q 150 [(0, .ref mo)] [] [ceO 7 mo [.int (iI th), .int (iI n), .int (iI ac), .ref tha, .int (iI (bZ gk)), .ref rea, .ref poa, .int (iI mn), .ref cha, .ref goa, .ref lea, .int (iI nv), .int (iI mm), .ref fia, .ref sea, .int (iI (bZ ck)), .ref sta, .ref lda, .ref vla, .int (iI (bZ gd)), .int (iI fl), .ref dia, .ref qua], ceZ G tb 25600 (fz T), ceI G dia 160 Di, ceI G qua 160 Qu] 0 0) :
    ∀ (d : Nat) (i w : Int) (Di Qu : Nat → Int), nq ≤ i + (d : Int) → (0 ≤ i ∧ (0 ≤ w ∧ w ≤ nq ∧ i ≤ nq) ∧ mbf T nq.toNat u.toNat Di Qu w.toNat i.toNat 0) → vv_V p l e { frames := 1, cells := 0, slots := 0, locals := 21 } s m args below meth c G A 8 Q 61 [(0, .ref mo), (1, .ref tb), (2, .int (iI nq)), (3, .int (iI u)), (4, .int (iI w)), (5, .int (iI i))] [] [ceO 7 mo [.int (iI th), .int (iI n), .int (iI ac), .ref tha, .int (iI (bZ gk)), .ref rea, .ref poa, .int (iI mn), .ref cha, .ref goa, .ref lea, .int (iI nv), .int (iI mm), .ref fia, .ref sea, .int (iI (bZ ck)), .ref sta, .ref lda, .ref vla, .int (iI (bZ gd)), .int (iI fl), .ref dia, .ref qua], ceZ G tb 25600 (fz T), ceI G dia 160 Di, ceI G qua 160 Qu] 0 0 := by
  intro d
  induction d with
  | zero =>
    intro i w Di Qu hd hI
    have hw0 : w.toNat ≤ nq.toNat := by have h9 := hI.2.2.1; rw [h9]; exact cN_le _ _
    refine vv_iload F zd_MO_walkFrom_61 5 rfl ?_
    refine vv_iload F zd_MO_walkFrom_63 4 rfl ?_
    refine vv_icmp_ge (tgt := 150) F zd_MO_walkFrom_65 rfl (by first | exact ⟨by omega, by omega⟩) (by first | exact ⟨by omega, by omega⟩) (fun _ => ?_) (fun h9 => absurd h9 (by omega))
    refine vv_locals (lv' := [(0, .ref mo)]) [0] rfl ?_
    exact k Di Qu (mbf_end hI.2.2 (by omega) (by omega) hT)
  | succ d ih =>
    intro i w Di Qu hd hI
    have hw0 : w.toNat ≤ nq.toNat := by have h9 := hI.2.2.1; rw [h9]; exact cN_le _ _
    refine vv_iload F zd_MO_walkFrom_61 5 rfl ?_
    refine vv_iload F zd_MO_walkFrom_63 4 rfl ?_
    refine vv_icmp_ge (tgt := 150) F zd_MO_walkFrom_65 rfl (by first | exact ⟨by omega, by omega⟩) (by first | exact ⟨by omega, by omega⟩) (fun h1 => ?_) (fun h1 => ?_)
    · refine vv_locals (lv' := [(0, .ref mo)]) [0] rfl ?_
      exact k Di Qu (mbf_end hI.2.2 (by omega) (by omega) hT)
    · refine vv_aload_n F zd_MO_walkFrom_68 rfl 0 rfl ?_
      refine vv_get F zd_MO_walkFrom_69 zf_MO 0 rfl rfl 22 (by decide) zw_778 rfl ?_
      refine vv_iload F zd_MO_walkFrom_72 5 rfl ?_
      refine vv_iald F zd_MO_walkFrom_74 3 rfl ⟨by omega, by omega⟩ (by decide) ?_
      refine vv_istore (lv' := [(0, .ref mo), (1, .ref tb), (2, .int (iI nq)), (3, .int (iI u)), (4, .int (iI w)), (5, .int (iI i)), (6, .int (iI (Qu i.toNat)))]) F zd_MO_walkFrom_75 (by decide) [1, 2, 3, 4, 5, 6, 0] rfl ?_
      refine vv_iconst F zd_MO_walkFrom_77 ?_
      refine vv_istore (lv' := [(0, .ref mo), (1, .ref tb), (2, .int (iI nq)), (3, .int (iI u)), (4, .int (iI w)), (5, .int (iI i)), (6, .int (iI (Qu i.toNat))), (7, .int (iI 0))]) F zd_MO_walkFrom_78 (by decide) [1, 2, 3, 4, 5, 6, 7, 0] rfl ?_
      refine lp_MO_w1 F mo th n ac tha gk rea poa mn cha goa lea nv mm fia sea ck sta lda vla gd fl dia qua tb T nq u i (Qu i.toNat) hq hu hT (fun w9 D9 Q9 hJ => ?_) nq.toNat 0 w Di Qu (by omega) ⟨by omega, ⟨by omega, by omega⟩, rfl, hI.2.2⟩
      refine vv_iinc (j := 5) (lv' := [(0, .ref mo), (1, .ref tb), (2, .int (iI nq)), (3, .int (iI u)), (4, .int (iI w9)), (5, .int (iI (i + 1))), (6, .int (iI (Qu i.toNat))), (7, .int (iI nq))]) F zd_MO_walkFrom_144 rfl (by decide) [1, 2, 3, 4, 5, 0, 6, 7] rfl ?_
      refine vv_goto (tgt := 61) F zd_MO_walkFrom_147 rfl ?_
      refine vv_locals (lv' := [(0, .ref mo), (1, .ref tb), (2, .int (iI nq)), (3, .int (iI u)), (4, .int (iI w9)), (5, .int (iI (i + 1)))]) [0, 1, 2, 3, 4, 5] rfl ?_
      have hm9 := hJ.2.2.2
      have hw9 : w9.toNat ≤ nq.toNat := by rw [hm9.1]; exact cN_le _ _
      have hj9 := hJ.2.1
      exact ih (i + 1) w9 D9 Q9 (by omega) ⟨by omega, ⟨by omega, by omega, by omega⟩, by rw [show (i + 1).toNat = i.toNat + 1 by omega]; exact mbf_next hm9 (by omega) hT⟩

set_option maxHeartbeats 4000000 in
set_option maxRecDepth 100000 in
theorem cn_MO_walkFrom (l : Launch) (G : vv_G) (mo : Nat) (th : Int) (n : Int) (ac : Int) (tha : Nat) (gk : Bool) (rea : Nat) (poa : Nat) (mn : Int) (cha : Nat) (goa : Nat) (lea : Nat) (nv : Int) (mm : Int) (fia : Nat) (sea : Nat) (ck : Bool) (sta : Nat) (lda : Nat) (vla : Nat) (gd : Bool) (fl : Int) (dia : Nat) (qua : Nat) (tb : Nat) (T : Nat → Nat → Bool) (nq : Int) (u : Int) (Di : Nat → Int) (Qu : Nat → Int) (hq : 1 ≤ nq ∧ nq ≤ 160) (hu : 0 ≤ u ∧ u < nq) (hT : ∀ x y, T x y = true → x < nq.toNat ∧ y < nq.toNat) :
    vv_C l zy_MO_walkFrom zc_MO_walkFrom 8 none { frames := 1, cells := 0, slots := 0, locals := 21 } G [.ref mo, .ref tb, .int (iI nq), .int (iI u)] [ceO 7 mo [.int (iI th), .int (iI n), .int (iI ac), .ref tha, .int (iI (bZ gk)), .ref rea, .ref poa, .int (iI mn), .ref cha, .ref goa, .ref lea, .int (iI nv), .int (iI mm), .ref fia, .ref sea, .int (iI (bZ ck)), .ref sta, .ref lda, .ref vla, .int (iI (bZ gd)), .int (iI fl), .ref dia, .ref qua], ceZ G tb 25600 (fz T), ceI G dia 160 Di, ceI G qua 160 Qu] (fun v7 w7 => ∃ (Di2 : Nat → Int) (Qu2 : Nat → Int), (mwd T nq.toNat u.toNat Di2) ∧ v7 = none ∧ w7 = [ceO 7 mo [.int (iI th), .int (iI n), .int (iI ac), .ref tha, .int (iI (bZ gk)), .ref rea, .ref poa, .int (iI mn), .ref cha, .ref goa, .ref lea, .int (iI nv), .int (iI mm), .ref fia, .ref sea, .int (iI (bZ ck)), .ref sta, .ref lda, .ref vla, .int (iI (bZ gd)), .int (iI fl), .ref dia, .ref qua], ceZ G tb 25600 (fz T), ceI G dia 160 Di2, ceI G qua 160 Qu2]) := by
  refine vv_met (by decide +kernel) (Nat.le_of_ble_eq_true rfl) rfl ?_
  intro p e s m args below meth c A F
  refine vv_iconst F zd_MO_walkFrom_0 ?_
  refine vv_istore (lv' := [(0, .ref mo), (1, .ref tb), (2, .int (iI nq)), (3, .int (iI u)), (4, .int (iI 0))]) F zd_MO_walkFrom_1 (by decide) [1, 2, 3, 4, 0] rfl ?_
  refine vv_iconst F zd_MO_walkFrom_3 ?_
  refine vv_istore (lv' := [(0, .ref mo), (1, .ref tb), (2, .int (iI nq)), (3, .int (iI u)), (4, .int (iI 0)), (5, .int (iI 0))]) F zd_MO_walkFrom_4 (by decide) [1, 2, 3, 4, 5, 0] rfl ?_
  refine lp_MO_w0 F mo th n ac tha gk rea poa mn cha goa lea nv mm fia sea ck sta lda vla gd fl dia qua tb T nq u hq hu hT (fun w9 D9 Q9 hI => ?_) nq.toNat 0 0 Di Qu (by omega) ⟨by omega, ⟨by omega, by omega⟩, rfl, fun y hy => absurd hy (Nat.not_lt_zero y), fun y hy => absurd hy (Nat.not_lt_zero y)⟩
  refine vv_iconst F zd_MO_walkFrom_58 ?_
  refine vv_istore (lv' := [(0, .ref mo), (1, .ref tb), (2, .int (iI nq)), (3, .int (iI u)), (4, .int (iI w9)), (5, .int (iI 0))]) F zd_MO_walkFrom_59 (by decide) [1, 2, 3, 4, 5, 0] rfl ?_
  refine lp_MO_w2 F mo th n ac tha gk rea poa mn cha goa lea nv mm fia sea ck sta lda vla gd fl dia qua tb T nq u hq hu hT (fun D8 Q8 hm => ?_) nq.toNat 0 w9 D9 Q9 (by omega) ⟨by omega, ⟨by omega, by omega, by omega⟩, mb0_mbf hI.2.2 hT⟩
  exact vv_vret F zd_MO_walkFrom_150 ⟨D8, Q8, hm, rfl, rfl⟩

set_option maxHeartbeats 4000000 in
set_option maxRecDepth 100000 in
theorem cn_MO_walk (l : Launch) (G : vv_G) (mo : Nat) (th : Int) (n : Int) (ac : Int) (tha : Nat) (gk : Bool) (rea : Nat) (poa : Nat) (mn : Int) (cha : Nat) (goa : Nat) (lea : Nat) (nv : Int) (mm : Int) (fia : Nat) (sea : Nat) (ck : Bool) (sta : Nat) (lda : Nat) (vla : Nat) (gd : Bool) (fl : Int) (dia : Nat) (qua : Nat) (B : Nat → Nat → Bool) (Di : Nat → Int) (Qu : Nat → Int) (u : Int) (v : Int) (hn : 1 ≤ n ∧ n ≤ 160) (hu : rg u) (hv : rg v) (hB : ∀ x y, B x y = true → x < n.toNat ∧ y < n.toNat) :
    vv_C l zy_MO_walk zc_MO_walk 3 (some .int) { frames := 2, cells := 0, slots := 0, locals := 48 } G [.ref mo, .int (iI u), .int (iI v)] [ceO 7 mo [.int (iI th), .int (iI n), .int (iI ac), .ref tha, .int (iI (bZ gk)), .ref rea, .ref poa, .int (iI mn), .ref cha, .ref goa, .ref lea, .int (iI nv), .int (iI mm), .ref fia, .ref sea, .int (iI (bZ ck)), .ref sta, .ref lda, .ref vla, .int (iI (bZ gd)), .int (iI fl), .ref dia, .ref qua], ceZ G tha 25600 (fz B), ceI G dia 160 Di, ceI G qua 160 Qu] (fun v7 w7 => ∃ (th2 : Int) (Di2 : Nat → Int) (Qu2 : Nat → Int) (z : Int), (((nno n u ∨ nno n v) ∧ th2 = 1 ∧ z = 0) ∨ ((0 ≤ u ∧ u < n) ∧ (0 ≤ v ∧ v < n) ∧ th2 = 0 ∧ shB B u.toNat v.toNat z)) ∧ v7 = some (.int (iI z)) ∧ w7 = [ceO 7 mo [.int (iI th2), .int (iI n), .int (iI ac), .ref tha, .int (iI (bZ gk)), .ref rea, .ref poa, .int (iI mn), .ref cha, .ref goa, .ref lea, .int (iI nv), .int (iI mm), .ref fia, .ref sea, .int (iI (bZ ck)), .ref sta, .ref lda, .ref vla, .int (iI (bZ gd)), .int (iI fl), .ref dia, .ref qua], ceZ G tha 25600 (fz B), ceI G dia 160 Di2, ceI G qua 160 Qu2]) := by
  refine vv_met (by decide +kernel) (Nat.le_of_ble_eq_true rfl) rfl ?_
  intro p e s m args below meth c A F
  refine vv_aload_n F zd_MO_walk_0 rfl 0 rfl ?_
  refine vv_aload_n F zd_MO_walk_1 rfl 0 rfl ?_
  refine vv_iload_n F zd_MO_walk_2 rfl 1 rfl ?_
  refine vv_callV (q0 := 0) (As := [.int (iI u)]) (rest := [.ref mo]) (wr := [ceZ G tha 25600 (fz B), ceI G dia 160 Di, ceI G qua 160 Qu]) F (cn_MO_noNode l G mo th n ac tha gk rea poa mn cha goa lea nv mm fia sea ck sta lda vla gd fl dia qua u hu ⟨by omega, by omega⟩) zm_MO_noNode ⟨zw_841, zs_MO_noNode⟩ zw_839 zd_MO_walk_3 ⟨by decide, by decide⟩ ⟨by decide, by decide⟩ [0] [1, 2, 3] rfl rfl ⟨rfl, rfl, by decide⟩ rfl rfl rfl rfl (Nat.le_of_ble_eq_true rfl) (vv_then (ws' := [ceO 7 mo [.int (iI th), .int (iI n), .int (iI ac), .ref tha, .int (iI (bZ gk)), .ref rea, .ref poa, .int (iI mn), .ref cha, .ref goa, .ref lea, .int (iI nv), .int (iI mm), .ref fia, .ref sea, .int (iI (bZ ck)), .ref sta, .ref lda, .ref vla, .int (iI (bZ gd)), .int (iI fl), .ref dia, .ref qua], ceZ G tha 25600 (fz B), ceI G dia 160 Di, ceI G qua 160 Qu]) (st' := [.int (iI (bZ (decide (u < 0 ∨ n ≤ u)))), .ref mo]) [3, 0, 1, 2] rfl rfl rfl ?_)
  refine vv_if_ne (tgt := 17) F zd_MO_walk_6 rfl (bZ_rg _) (fun h1 => ?_) (fun h1 => ?_)
  · have h1 : (decide (u < 0 ∨ n ≤ u)) = true := by cases hb9 : (decide (u < 0 ∨ n ≤ u)) with | true => rfl | false => exact absurd ((bZ_0 _).mpr hb9) h1
    have h1 := of_decide_eq_true h1
    refine vv_iconst F zd_MO_walk_17 ?_
    refine vv_goto (tgt := 22) F zd_MO_walk_18 rfl ?_
    refine vv_put (v := .int (iI 1)) (ws' := [ceO 7 mo [.int (iI 1), .int (iI n), .int (iI ac), .ref tha, .int (iI (bZ gk)), .ref rea, .ref poa, .int (iI mn), .ref cha, .ref goa, .ref lea, .int (iI nv), .int (iI mm), .ref fia, .ref sea, .int (iI (bZ ck)), .ref sta, .ref lda, .ref vla, .int (iI (bZ gd)), .int (iI fl), .ref dia, .ref qua], ceZ G tha 25600 (fz B), ceI G dia 160 Di, ceI G qua 160 Qu]) F zd_MO_walk_22 zf_MO zt_MO_ok zn_MO 0 rfl rfl 0 (by decide) zw_756 rfl rfl rfl (Nat.le_of_ble_eq_true rfl) rfl ?_
    refine vv_aload_n F zd_MO_walk_25 rfl 0 rfl ?_
    refine vv_get F zd_MO_walk_26 zf_MO 0 rfl rfl 0 (by decide) zw_756 rfl ?_
    refine vv_if_le (tgt := 34) F zd_MO_walk_29 rfl (by decide) (fun h9 => absurd h9 (by decide)) (fun _ => ?_)
    refine vv_iconst F zd_MO_walk_32 ?_
    exact vv_iret F zd_MO_walk_33 ⟨_, Di, Qu, _, Or.inl ⟨by unfold nno; omega, rfl, rfl⟩, rfl, rfl⟩
  · have h1 : (decide (u < 0 ∨ n ≤ u)) = false := (bZ_0 _).mp h1
    have h1 := of_decide_eq_false h1
    refine vv_aload_n F zd_MO_walk_9 rfl 0 rfl ?_
    refine vv_iload_n F zd_MO_walk_10 rfl 2 rfl ?_
    refine vv_callV (q0 := 0) (As := [.int (iI v)]) (rest := [.ref mo]) (wr := [ceZ G tha 25600 (fz B), ceI G dia 160 Di, ceI G qua 160 Qu]) F (cn_MO_noNode l G mo th n ac tha gk rea poa mn cha goa lea nv mm fia sea ck sta lda vla gd fl dia qua v hv ⟨by omega, by omega⟩) zm_MO_noNode ⟨zw_841, zs_MO_noNode⟩ zw_839 zd_MO_walk_11 ⟨by decide, by decide⟩ ⟨by decide, by decide⟩ [0] [1, 2, 3] rfl rfl ⟨rfl, rfl, by decide⟩ rfl rfl rfl rfl (Nat.le_of_ble_eq_true rfl) (vv_then (ws' := [ceO 7 mo [.int (iI th), .int (iI n), .int (iI ac), .ref tha, .int (iI (bZ gk)), .ref rea, .ref poa, .int (iI mn), .ref cha, .ref goa, .ref lea, .int (iI nv), .int (iI mm), .ref fia, .ref sea, .int (iI (bZ ck)), .ref sta, .ref lda, .ref vla, .int (iI (bZ gd)), .int (iI fl), .ref dia, .ref qua], ceZ G tha 25600 (fz B), ceI G dia 160 Di, ceI G qua 160 Qu]) (st' := [.int (iI (bZ (decide (v < 0 ∨ n ≤ v)))), .ref mo]) [3, 0, 1, 2] rfl rfl rfl ?_)
    refine vv_if_eq (tgt := 21) F zd_MO_walk_14 rfl (bZ_rg _) (fun h2 => ?_) (fun h2 => ?_)
    · have h2 : (decide (v < 0 ∨ n ≤ v)) = false := (bZ_0 _).mp h2
      have h2 := of_decide_eq_false h2
      refine vv_iconst F zd_MO_walk_21 ?_
      refine vv_put (v := .int (iI 0)) (ws' := [ceO 7 mo [.int (iI 0), .int (iI n), .int (iI ac), .ref tha, .int (iI (bZ gk)), .ref rea, .ref poa, .int (iI mn), .ref cha, .ref goa, .ref lea, .int (iI nv), .int (iI mm), .ref fia, .ref sea, .int (iI (bZ ck)), .ref sta, .ref lda, .ref vla, .int (iI (bZ gd)), .int (iI fl), .ref dia, .ref qua], ceZ G tha 25600 (fz B), ceI G dia 160 Di, ceI G qua 160 Qu]) F zd_MO_walk_22 zf_MO zt_MO_ok zn_MO 0 rfl rfl 0 (by decide) zw_756 rfl rfl rfl (Nat.le_of_ble_eq_true rfl) rfl ?_
      refine vv_aload_n F zd_MO_walk_25 rfl 0 rfl ?_
      refine vv_get F zd_MO_walk_26 zf_MO 0 rfl rfl 0 (by decide) zw_756 rfl ?_
      refine vv_if_le (tgt := 34) F zd_MO_walk_29 rfl (by decide) (fun _ => ?_) (fun h9 => absurd h9 (by decide))
      refine vv_aload_n F zd_MO_walk_34 rfl 0 rfl ?_
      refine vv_aload_n F zd_MO_walk_35 rfl 0 rfl ?_
      refine vv_get F zd_MO_walk_36 zf_MO 0 rfl rfl 3 (by decide) zw_759 rfl ?_
      refine vv_aload_n F zd_MO_walk_39 rfl 0 rfl ?_
      refine vv_get F zd_MO_walk_40 zf_MO 0 rfl rfl 1 (by decide) zw_757 rfl ?_
      refine vv_iload_n F zd_MO_walk_43 rfl 1 rfl ?_
      refine vv_callV (q0 := 0) (As := [.ref tha, .int (iI n), .int (iI u)]) (rest := []) (wr := []) F (cn_MO_walkFrom l G mo 0 n ac tha gk rea poa mn cha goa lea nv mm fia sea ck sta lda vla gd fl dia qua tha B n u Di Qu ⟨by omega, by omega⟩ ⟨by omega, by omega⟩ hB) zm_MO_walkFrom ⟨zw_908, zs_MO_walkFrom⟩ zw_906 zd_MO_walk_44 ⟨by decide, by decide⟩ ⟨by decide, by decide⟩ [0, 1, 2, 3] [] rfl rfl ⟨rfl, rfl, by decide⟩ rfl rfl rfl rfl (Nat.le_of_ble_eq_true rfl) (fun v9 w9 hp9 => ?_)
      obtain ⟨Di2_1, Qu2_2, hf1_0, rfl, rfl⟩ := hp9
      refine vv_thenE (ws' := [ceO 7 mo [.int (iI 0), .int (iI n), .int (iI ac), .ref tha, .int (iI (bZ gk)), .ref rea, .ref poa, .int (iI mn), .ref cha, .ref goa, .ref lea, .int (iI nv), .int (iI mm), .ref fia, .ref sea, .int (iI (bZ ck)), .ref sta, .ref lda, .ref vla, .int (iI (bZ gd)), .int (iI fl), .ref dia, .ref qua], ceZ G tha 25600 (fz B), ceI G dia 160 Di2_1, ceI G qua 160 Qu2_2]) (st' := []) (kc' := 0) (ks' := 0) [0, 1, 2, 3] rfl rfl rfl ?_
      have hsh := mwd_sh hf1_0 (y := v.toNat) (by omega)
      have hrw := mwd_rg hf1_0 (y := v.toNat) (by omega)
      refine vv_aload_n F zd_MO_walk_47 rfl 0 rfl ?_
      refine vv_get F zd_MO_walk_48 zf_MO 0 rfl rfl 21 (by decide) zw_777 rfl ?_
      refine vv_iload_n F zd_MO_walk_51 rfl 2 rfl ?_
      refine vv_iald F zd_MO_walk_52 2 rfl ⟨by omega, by omega⟩ (by decide) ?_
      refine vv_ldc (z := 100000) F zd_MO_walk_53 zw_910 (by decide) ?_
      refine vv_icmp_ne (tgt := 62) F zd_MO_walk_55 rfl (by first | exact ⟨by omega, by omega⟩ | exact hu | exact hv) (by decide) (fun h3 => ?_) (fun h3 => ?_)
      · refine vv_aload_n F zd_MO_walk_62 rfl 0 rfl ?_
        refine vv_get F zd_MO_walk_63 zf_MO 0 rfl rfl 21 (by decide) zw_777 rfl ?_
        refine vv_iload_n F zd_MO_walk_66 rfl 2 rfl ?_
        refine vv_iald F zd_MO_walk_67 2 rfl ⟨by omega, by omega⟩ (by decide) ?_
        exact vv_iret F zd_MO_walk_68 ⟨_, _, _, _, Or.inr ⟨⟨by omega, by omega⟩, ⟨by omega, by omega⟩, rfl, by have h8 := hsh; rw [if_neg (by omega)] at h8; exact h8⟩, rfl, rfl⟩
      · refine vv_iconst F zd_MO_walk_58 ?_
        refine vv_goto (tgt := 68) F zd_MO_walk_59 rfl ?_
        exact vv_iret F zd_MO_walk_68 ⟨_, _, _, _, Or.inr ⟨⟨by omega, by omega⟩, ⟨by omega, by omega⟩, rfl, by have h8 := hsh; rw [if_pos (by omega)] at h8; exact h8⟩, rfl, rfl⟩
    · have h2 : (decide (v < 0 ∨ n ≤ v)) = true := by cases hb9 : (decide (v < 0 ∨ n ≤ v)) with | true => rfl | false => exact absurd ((bZ_0 _).mpr hb9) h2
      have h2 := of_decide_eq_true h2
      refine vv_iconst F zd_MO_walk_17 ?_
      refine vv_goto (tgt := 22) F zd_MO_walk_18 rfl ?_
      refine vv_put (v := .int (iI 1)) (ws' := [ceO 7 mo [.int (iI 1), .int (iI n), .int (iI ac), .ref tha, .int (iI (bZ gk)), .ref rea, .ref poa, .int (iI mn), .ref cha, .ref goa, .ref lea, .int (iI nv), .int (iI mm), .ref fia, .ref sea, .int (iI (bZ ck)), .ref sta, .ref lda, .ref vla, .int (iI (bZ gd)), .int (iI fl), .ref dia, .ref qua], ceZ G tha 25600 (fz B), ceI G dia 160 Di, ceI G qua 160 Qu]) F zd_MO_walk_22 zf_MO zt_MO_ok zn_MO 0 rfl rfl 0 (by decide) zw_756 rfl rfl rfl (Nat.le_of_ble_eq_true rfl) rfl ?_
      refine vv_aload_n F zd_MO_walk_25 rfl 0 rfl ?_
      refine vv_get F zd_MO_walk_26 zf_MO 0 rfl rfl 0 (by decide) zw_756 rfl ?_
      refine vv_if_le (tgt := 34) F zd_MO_walk_29 rfl (by decide) (fun h9 => absurd h9 (by decide)) (fun _ => ?_)
      refine vv_iconst F zd_MO_walk_32 ?_
      exact vv_iret F zd_MO_walk_33 ⟨_, Di, Qu, _, Or.inl ⟨by unfold nno; omega, rfl, rfl⟩, rfl, rfl⟩
