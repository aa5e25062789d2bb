set_option maxHeartbeats 4000000 in
set_option maxRecDepth 100000 in
theorem lp_MO_cs1 {p : Program} {l : Launch} {e : Env} {s : State} {m : MethodId} {args : Array Value} {below : List Frame} {meth : Method} {c : Code} {A : Nat → Prop} {Q : State → Prop} {G : vv_G} (F : vv_F p s m args meth c zc_MO_classes "ClauseGraphModel" "classes" (some .int) G A 5) (mo : Nat) (th : Int) (n : Int) (ac : Int) (tha : Nat) (gk : Bool) (rea : Nat) (poa : Nat) (mn : Int) (cha : Nat) (goa : Nat) (lea : Nat) (nv : Int) (mm : Int) (fia : Nat) (sea : Nat) (ck : Bool) (sta : Nat) (lda : Nat) (vla : Nat) (gd : Bool) (fl : Int) (dia : Nat) (qua : Nat) (f1 : Nat → Int) (f2 : Nat → Int) (S : Nat → Nat → Bool) (Ld : Nat → Nat → Bool) (V : Nat → Int) (i z : Int) (hv : 1 ≤ nv ∧ nv ≤ 80) (hi : 0 ≤ i ∧ i < 2 * nv)
    (k : ∀ (b : Bool), b = mfr Ld i.toNat i.toNat → vv_V p l e { frames := 3, cells := 0, slots := 0, locals := 68 } s m args below meth c G A 5 Q 88 [(0, .ref mo), (1, .int (iI z)), (2, .int (iI i)), (3, .int (iI (bZ b)))] [] [ceO 7 mo [.int (iI th), .int (iI n), .int (iI ac), .ref tha, .int (iI (bZ gk)), .ref rea, .ref poa, .int (iI mn), .ref cha, .ref goa, .ref lea, .int (iI nv), .int (iI mm), .ref fia, .ref sea, .int (iI (bZ ck)), .ref sta, .ref lda, .ref vla, .int (iI (bZ gd)), .int (iI fl), .ref dia, .ref qua], ceI G fia 400 f1, ceI G sea 400 f2, ceZ G sta 25600 (fz S), ceZ G lda 25600 (fz Ld), ceI G vla 160 V] 0 0) :
    ∀ (d : Nat) (j : Int) (b : Bool), j + (d : Int) = i → (0 ≤ j ∧ b = mfr Ld i.toNat j.toNat) → vv_V p l e { frames := 3, cells := 0, slots := 0, locals := 68 } s m args below meth c G A 5 Q 46 [(0, .ref mo), (1, .int (iI z)), (2, .int (iI i)), (3, .int (iI (bZ b))), (4, .int (iI j))] [] [ceO 7 mo [.int (iI th), .int (iI n), .int (iI ac), .ref tha, .int (iI (bZ gk)), .ref rea, .ref poa, .int (iI mn), .ref cha, .ref goa, .ref lea, .int (iI nv), .int (iI mm), .ref fia, .ref sea, .int (iI (bZ ck)), .ref sta, .ref lda, .ref vla, .int (iI (bZ gd)), .int (iI fl), .ref dia, .ref qua], ceI G fia 400 f1, ceI G sea 400 f2, ceZ G sta 25600 (fz S), ceZ G lda 25600 (fz Ld), ceI G vla 160 V] 0 0 := by
  intro d
  induction d with
  | zero =>
    intro j b hd hI
    refine vv_iload F zd_MO_classes_46 4 rfl ?_
    refine vv_iload_n F zd_MO_classes_48 rfl 2 rfl ?_
    refine vv_icmp_ge (tgt := 88) F zd_MO_classes_49 rfl (by first | exact ⟨by omega, by omega⟩) (by first | exact ⟨by omega, by omega⟩) (fun _ => ?_) (fun h9 => absurd h9 (by omega))
    refine vv_locals (lv' := [(0, .ref mo), (1, .int (iI z)), (2, .int (iI i)), (3, .int (iI (bZ b)))]) [0, 1, 2, 3] rfl ?_
    exact k b (by rw [hI.2, show j = i by omega])
  | succ d ih =>
    intro j b hd hI
    refine vv_iload F zd_MO_classes_46 4 rfl ?_
    refine vv_iload_n F zd_MO_classes_48 rfl 2 rfl ?_
    refine vv_icmp_ge (tgt := 88) F zd_MO_classes_49 rfl (by first | exact ⟨by omega, by omega⟩) (by first | exact ⟨by omega, by omega⟩) (fun h9 => absurd h9 (by omega)) (fun _ => ?_)
    refine vv_iload_n F zd_MO_classes_52 rfl 3 rfl ?_
    refine vv_if_eq (tgt := 88) F zd_MO_classes_53 rfl (bZ_rg _) (fun h1 => ?_) (fun h1 => ?_)
    · have h1 : b = false := (bZ_0 _).mp h1
      refine vv_locals (lv' := [(0, .ref mo), (1, .int (iI z)), (2, .int (iI i)), (3, .int (iI (bZ b)))]) [0, 1, 2, 3] rfl ?_
      exact k b (by rw [h1]; exact (mfr_f (by rw [← hI.2]; exact h1) (by omega)).symm)
    · have h1 : b = true := by cases hb9 : b with | true => rfl | false => exact absurd ((bZ_0 _).mpr hb9) h1
      refine vv_aload_n F zd_MO_classes_56 rfl 0 rfl ?_
      refine vv_iload_n F zd_MO_classes_57 rfl 2 rfl ?_
      refine vv_iload F zd_MO_classes_58 4 rfl ?_
      refine vv_callV (q0 := 0) (As := [.int (iI i), .int (iI j)]) (rest := []) (wr := [ceI G fia 400 f1, ceI G sea 400 f2, ceZ G sta 25600 (fz S), ceI G vla 160 V]) F (cn_MO_follows l G mo th n ac tha gk rea poa mn cha goa lea nv mm fia sea ck sta lda vla gd fl dia qua Ld i j ⟨by omega, by omega⟩ ⟨by omega, by omega⟩) zm_MO_follows ⟨zw_975, zs_MO_follows⟩ zw_973 zd_MO_classes_60 ⟨by decide, by decide⟩ ⟨by decide, by decide⟩ [0, 4] [1, 2, 3, 5] rfl rfl ⟨rfl, rfl, by decide⟩ rfl rfl rfl rfl (Nat.le_of_ble_eq_true rfl) (vv_then (ws' := [ceO 7 mo [.int (iI th), .int (iI n), .int (iI ac), .ref tha, .int (iI (bZ gk)), .ref rea, .ref poa, .int (iI mn), .ref cha, .ref goa, .ref lea, .int (iI nv), .int (iI mm), .ref fia, .ref sea, .int (iI (bZ ck)), .ref sta, .ref lda, .ref vla, .int (iI (bZ gd)), .int (iI fl), .ref dia, .ref qua], ceI G fia 400 f1, ceI G sea 400 f2, ceZ G sta 25600 (fz S), ceZ G lda 25600 (fz Ld), ceI G vla 160 V]) (st' := [.int (iI (bZ (mfo Ld i.toNat j.toNat)))]) [4, 0, 1, 2, 5, 3] rfl rfl rfl ?_)
      refine vv_if_eq (tgt := 76) F zd_MO_classes_63 rfl (bZ_rg _) (fun h2 => ?_) (fun h2 => ?_)
      · have h2 : (mfo Ld i.toNat j.toNat) = false := (bZ_0 _).mp h2
        refine vv_iconst F zd_MO_classes_76 ?_
        refine vv_goto (tgt := 81) F zd_MO_classes_77 rfl ?_
        refine vv_ti (show (1 : Int) = bZ true from rfl) ?_
        refine vv_istore_n (lv' := [(0, .ref mo), (1, .int (iI z)), (2, .int (iI i)), (3, .int (iI (bZ true))), (4, .int (iI j))]) F zd_MO_classes_81 rfl (by decide) [1, 2, 3, 0, 4] rfl ?_
        refine vv_iinc (j := 4) (lv' := [(0, .ref mo), (1, .int (iI z)), (2, .int (iI i)), (3, .int (iI (bZ true))), (4, .int (iI (j + 1)))]) F zd_MO_classes_82 rfl (by decide) [1, 2, 3, 4, 0] rfl ?_
        refine vv_goto (tgt := 46) F zd_MO_classes_85 rfl ?_
        exact ih (j + 1) true (by omega) ⟨by omega, by rw [show (j + 1).toNat = j.toNat + 1 by omega, mfr_s, ← hI.2, h1]; unfold mlq; rw [h2]; rfl⟩
      · have h2 : (mfo Ld i.toNat j.toNat) = true := by cases hb9 : (mfo Ld i.toNat j.toNat) with | true => rfl | false => exact absurd ((bZ_0 _).mpr hb9) h2
        refine vv_aload_n F zd_MO_classes_66 rfl 0 rfl ?_
        refine vv_iload F zd_MO_classes_67 4 rfl ?_
        refine vv_iload_n F zd_MO_classes_69 rfl 2 rfl ?_
        refine vv_callV (q0 := 0) (As := [.int (iI j), .int (iI i)]) (rest := []) (wr := [ceI G fia 400 f1, ceI G sea 400 f2, ceZ G sta 25600 (fz S), ceI G vla 160 V]) F (cn_MO_follows l G mo th n ac tha gk rea poa mn cha goa lea nv mm fia sea ck sta lda vla gd fl dia qua Ld j i ⟨by omega, by omega⟩ ⟨by omega, by omega⟩) zm_MO_follows ⟨zw_975, zs_MO_follows⟩ zw_973 zd_MO_classes_70 ⟨by decide, by decide⟩ ⟨by decide, by decide⟩ [0, 4] [1, 2, 3, 5] rfl rfl ⟨rfl, rfl, by decide⟩ rfl rfl rfl rfl (Nat.le_of_ble_eq_true rfl) (vv_then (ws' := [ceO 7 mo [.int (iI th), .int (iI n), .int (iI ac), .ref tha, .int (iI (bZ gk)), .ref rea, .ref poa, .int (iI mn), .ref cha, .ref goa, .ref lea, .int (iI nv), .int (iI mm), .ref fia, .ref sea, .int (iI (bZ ck)), .ref sta, .ref lda, .ref vla, .int (iI (bZ gd)), .int (iI fl), .ref dia, .ref qua], ceI G fia 400 f1, ceI G sea 400 f2, ceZ G sta 25600 (fz S), ceZ G lda 25600 (fz Ld), ceI G vla 160 V]) (st' := [.int (iI (bZ (mfo Ld j.toNat i.toNat)))]) [4, 0, 1, 2, 5, 3] rfl rfl rfl ?_)
        refine vv_if_ne (tgt := 80) F zd_MO_classes_73 rfl (bZ_rg _) (fun h3 => ?_) (fun h3 => ?_)
        · have h3 : (mfo Ld j.toNat i.toNat) = true := by cases hb9 : (mfo Ld j.toNat i.toNat) with | true => rfl | false => exact absurd ((bZ_0 _).mpr hb9) h3
          refine vv_iconst F zd_MO_classes_80 ?_
          refine vv_ti (show (0 : Int) = bZ false from rfl) ?_
          refine vv_istore_n (lv' := [(0, .ref mo), (1, .int (iI z)), (2, .int (iI i)), (3, .int (iI (bZ false))), (4, .int (iI j))]) F zd_MO_classes_81 rfl (by decide) [1, 2, 3, 0, 4] rfl ?_
          refine vv_iinc (j := 4) (lv' := [(0, .ref mo), (1, .int (iI z)), (2, .int (iI i)), (3, .int (iI (bZ false))), (4, .int (iI (j + 1)))]) F zd_MO_classes_82 rfl (by decide) [1, 2, 3, 4, 0] rfl ?_
          refine vv_goto (tgt := 46) F zd_MO_classes_85 rfl ?_
          exact ih (j + 1) false (by omega) ⟨by omega, by rw [show (j + 1).toNat = j.toNat + 1 by omega, mfr_s, ← hI.2, h1]; unfold mlq; rw [h2, h3]; rfl⟩
        · have h3 : (mfo Ld j.toNat i.toNat) = false := (bZ_0 _).mp h3
          refine vv_iconst F zd_MO_classes_76 ?_
          refine vv_goto (tgt := 81) F zd_MO_classes_77 rfl ?_
          refine vv_ti (show (1 : Int) = bZ true from rfl) ?_
          refine vv_istore_n (lv' := [(0, .ref mo), (1, .int (iI z)), (2, .int (iI i)), (3, .int (iI (bZ true))), (4, .int (iI j))]) F zd_MO_classes_81 rfl (by decide) [1, 2, 3, 0, 4] rfl ?_
          refine vv_iinc (j := 4) (lv' := [(0, .ref mo), (1, .int (iI z)), (2, .int (iI i)), (3, .int (iI (bZ true))), (4, .int (iI (j + 1)))]) F zd_MO_classes_82 rfl (by decide) [1, 2, 3, 4, 0] rfl ?_
          refine vv_goto (tgt := 46) F zd_MO_classes_85 rfl ?_
          exact ih (j + 1) true (by omega) ⟨by omega, by rw [show (j + 1).toNat = j.toNat + 1 by omega, mfr_s, ← hI.2, h1]; unfold mlq; rw [h2, h3]; rfl⟩

set_option maxHeartbeats 4000000 in
set_option maxRecDepth 100000 in
theorem lp_MO_cs {p : Program} {l : Launch} {e : Env} {s : State} {m : MethodId} {args : Array Value} {below : List Frame} {meth : Method} {c : Code} {A : Nat → Prop} {Q : State → Prop} {G : vv_G} (F : vv_F p s m args meth c zc_MO_classes "ClauseGraphModel" "classes" (some .int) G A 5) (mo : Nat) (th : Int) (n : Int) (ac : Int) (tha : Nat) (gk : Bool) (rea : Nat) (poa : Nat) (mn : Int) (cha : Nat) (goa : Nat) (lea : Nat) (nv : Int) (mm : Int) (fia : Nat) (sea : Nat) (ck : Bool) (sta : Nat) (lda : Nat) (vla : Nat) (gd : Bool) (fl : Int) (dia : Nat) (qua : Nat) (f1 : Nat → Int) (f2 : Nat → Int) (S : Nat → Nat → Bool) (Ld : Nat → Nat → Bool) (V : Nat → Int) (hv : 1 ≤ nv ∧ nv ≤ 80) (hg : gd = true)
    (k : ∀ (z : Int), (0 ≤ (2 * nv) ∧ z = (cN (fun a => mfr Ld a a) (2 * nv).toNat : Int)) → vv_V p l e { frames := 3, cells := 0, slots := 0, locals := 68 } s m args below meth c G A 5 Q 106 [(0, .ref mo), (1, .int (iI z)), (2, .int (iI (2 * nv)))] [] [ceO 7 mo [.int (iI th), .int (iI n), .int (iI ac), .ref tha, .int (iI (bZ gk)), .ref rea, .ref poa, .int (iI mn), .ref cha, .ref goa, .ref lea, .int (iI nv), .int (iI mm), .ref fia, .ref sea, .int (iI (bZ ck)), .ref sta, .ref lda, .ref vla, .int (iI (bZ gd)), .int (iI fl), .ref dia, .ref qua], ceI G fia 400 f1, ceI G sea 400 f2, ceZ G sta 25600 (fz S), ceZ G lda 25600 (fz Ld), ceI G vla 160 V] 0 0)  :
    ∀ (d : Nat) (i : Int) (z : Int), i + (d : Int) = (2 * nv) → (0 ≤ i ∧ z = (cN (fun a => mfr Ld a a) i.toNat : Int)) → vv_V p l e { frames := 3, cells := 0, slots := 0, locals := 68 } s m args below meth c G A 5 Q 24 [(0, .ref mo), (1, .int (iI z)), (2, .int (iI i))] [] [ceO 7 mo [.int (iI th), .int (iI n), .int (iI ac), .ref tha, .int (iI (bZ gk)), .ref rea, .ref poa, .int (iI mn), .ref cha, .ref goa, .ref lea, .int (iI nv), .int (iI mm), .ref fia, .ref sea, .int (iI (bZ ck)), .ref sta, .ref lda, .ref vla, .int (iI (bZ gd)), .int (iI fl), .ref dia, .ref qua], ceI G fia 400 f1, ceI G sea 400 f2, ceZ G sta 25600 (fz S), ceZ G lda 25600 (fz Ld), ceI G vla 160 V] 0 0 := by
  intro d
  induction d with
  | zero =>
    intro i z hd hI
    have hz : i = (2 * nv) := by omega
    subst hz
    refine vv_iload_n F zd_MO_classes_24 rfl 2 rfl ?_
    refine vv_iconst F zd_MO_classes_25 ?_
    refine vv_aload_n F zd_MO_classes_26 rfl 0 rfl ?_
    refine vv_get F zd_MO_classes_27 zf_MO 0 rfl rfl 11 (by decide) zw_767 rfl ?_
    refine vv_imul F zd_MO_classes_30 ?_
    refine vv_icmp_ge (tgt := 106) F zd_MO_classes_31 rfl (by first | exact ⟨by omega, by omega⟩) (by first | exact ⟨by omega, by omega⟩) (fun _ => ?_) (fun h9 => absurd h9 (by omega))
    exact k z hI
  | succ d ih =>
    intro i z hd hI
    refine vv_iload_n F zd_MO_classes_24 rfl 2 rfl ?_
    refine vv_iconst F zd_MO_classes_25 ?_
    refine vv_aload_n F zd_MO_classes_26 rfl 0 rfl ?_
    refine vv_get F zd_MO_classes_27 zf_MO 0 rfl rfl 11 (by decide) zw_767 rfl ?_
    refine vv_imul F zd_MO_classes_30 ?_
    refine vv_icmp_ge (tgt := 106) F zd_MO_classes_31 rfl (by first | exact ⟨by omega, by omega⟩) (by first | exact ⟨by omega, by omega⟩) (fun h9 => absurd h9 (by omega)) (fun _ => ?_)
    refine vv_aload_n F zd_MO_classes_34 rfl 0 rfl ?_
    refine vv_get F zd_MO_classes_35 zf_MO 0 rfl rfl 19 (by decide) zw_775 rfl ?_
    refine vv_if_eq (tgt := 106) F zd_MO_classes_38 rfl (bZ_rg _) (fun h9 => absurd h9 (by rw [hg]; decide)) (fun _ => ?_)
    refine vv_iconst F zd_MO_classes_41 ?_
    refine vv_ti (show (1 : Int) = bZ true from rfl) ?_
    refine vv_istore_n (lv' := [(0, .ref mo), (1, .int (iI z)), (2, .int (iI i)), (3, .int (iI (bZ true)))]) F zd_MO_classes_42 rfl (by decide) [1, 2, 3, 0] rfl ?_
    refine vv_iconst F zd_MO_classes_43 ?_
    refine vv_istore (lv' := [(0, .ref mo), (1, .int (iI z)), (2, .int (iI i)), (3, .int (iI (bZ true))), (4, .int (iI 0))]) F zd_MO_classes_44 (by decide) [1, 2, 3, 4, 0] rfl ?_
    refine lp_MO_cs1 F mo th n ac tha gk rea poa mn cha goa lea nv mm fia sea ck sta lda vla gd fl dia qua f1 f2 S Ld V i z hv ⟨by omega, by omega⟩ (fun b9 hb9 => ?_) i.toNat 0 true (by omega) ⟨by omega, rfl⟩
    refine vv_iload_n F zd_MO_classes_88 rfl 3 rfl ?_
    refine vv_if_eq (tgt := 98) F zd_MO_classes_89 rfl (bZ_rg _) (fun h1 => ?_) (fun h1 => ?_)
    · have h1 : b9 = false := (bZ_0 _).mp h1
      refine vv_iload_n F zd_MO_classes_98 rfl 1 rfl ?_
      refine vv_istore_n (lv' := [(0, .ref mo), (1, .int (iI z)), (2, .int (iI i)), (3, .int (iI (bZ b9)))]) F zd_MO_classes_99 rfl (by decide) [1, 0, 2, 3] rfl ?_
      refine vv_iinc (j := 2) (lv' := [(0, .ref mo), (1, .int (iI z)), (2, .int (iI (i + 1))), (3, .int (iI (bZ b9)))]) F zd_MO_classes_100 rfl (by decide) [1, 2, 0, 3] rfl ?_
      refine vv_goto (tgt := 24) F zd_MO_classes_103 rfl ?_
      refine vv_locals (lv' := [(0, .ref mo), (1, .int (iI z)), (2, .int (iI (i + 1)))]) [0, 1, 2] rfl ?_
      exact ih (i + 1) z (by omega) (⟨by omega, by rw [show (i + 1).toNat = i.toNat + 1 by omega, cN_f (g := (fun a => mfr Ld a a)) (by show mfr Ld i.toNat i.toNat = _; rw [← hb9]; exact h1)]; omega⟩)
    · have h1 : b9 = true := by cases hb9 : b9 with | true => rfl | false => exact absurd ((bZ_0 _).mpr hb9) h1
      refine vv_iload_n F zd_MO_classes_92 rfl 1 rfl ?_
      refine vv_iconst F zd_MO_classes_93 ?_
      refine vv_iadd F zd_MO_classes_94 ?_
      refine vv_goto (tgt := 99) F zd_MO_classes_95 rfl ?_
      refine vv_istore_n (lv' := [(0, .ref mo), (1, .int (iI (z + 1))), (2, .int (iI i)), (3, .int (iI (bZ b9)))]) F zd_MO_classes_99 rfl (by decide) [1, 0, 2, 3] rfl ?_
      refine vv_iinc (j := 2) (lv' := [(0, .ref mo), (1, .int (iI (z + 1))), (2, .int (iI (i + 1))), (3, .int (iI (bZ b9)))]) F zd_MO_classes_100 rfl (by decide) [1, 2, 0, 3] rfl ?_
      refine vv_goto (tgt := 24) F zd_MO_classes_103 rfl ?_
      refine vv_locals (lv' := [(0, .ref mo), (1, .int (iI (z + 1))), (2, .int (iI (i + 1)))]) [0, 1, 2] rfl ?_
      exact ih (i + 1) (z + 1) (by omega) (⟨by omega, by rw [show (i + 1).toNat = i.toNat + 1 by omega, cN_t (g := (fun a => mfr Ld a a)) (by show mfr Ld i.toNat i.toNat = _; rw [← hb9]; exact h1)]; omega⟩)

set_option maxHeartbeats 4000000 in
set_option maxRecDepth 100000 in
theorem cn_MO_classes (l : Launch) (G : vv_G) (mo : Nat) (th : Int) (n : Int) (ac : Int) (tha : Nat) (gk : Bool) (rea : Nat) (poa : Nat) (mn : Int) (cha : Nat) (goa : Nat) (lea : Nat) (nv : Int) (mm : Int) (fia : Nat) (sea : Nat) (ck : Bool) (sta : Nat) (lda : Nat) (vla : Nat) (gd : Bool) (fl : Int) (dia : Nat) (qua : Nat) (f1 : Nat → Int) (f2 : Nat → Int) (S : Nat → Nat → Bool) (Ld : Nat → Nat → Bool) (V : Nat → Int) (hv : 1 ≤ nv ∧ nv ≤ 80) (hm : 0 ≤ mm ∧ mm ≤ 400) (hf : ∀ j : Nat, (j : Int) < mm → ¬ nli nv (f1 j) ∧ ¬ nli nv (f2 j)) (hc : ck = true → mC nv mm f1 f2 S Ld V gd fl) :
    vv_C l zy_MO_classes zc_MO_classes 5 (some .int) { frames := 3, cells := 0, slots := 0, locals := 68 } G [.ref mo] [ceO 7 mo [.int (iI th), .int (iI n), .int (iI ac), .ref tha, .int (iI (bZ gk)), .ref rea, .ref poa, .int (iI mn), .ref cha, .ref goa, .ref lea, .int (iI nv), .int (iI mm), .ref fia, .ref sea, .int (iI (bZ ck)), .ref sta, .ref lda, .ref vla, .int (iI (bZ gd)), .int (iI fl), .ref dia, .ref qua], ceI G fia 400 f1, ceI G sea 400 f2, ceZ G sta 25600 (fz S), ceZ G lda 25600 (fz Ld), ceI G vla 160 V] (fun v7 w7 => ∃ (th2 : Int) (S2 : Nat → Nat → Bool) (Ld2 : Nat → Nat → Bool) (V2 : Nat → Int) (gd2 : Bool) (fl2 : Int) (z : Int), (mC nv mm f1 f2 S2 Ld2 V2 gd2 fl2) ∧ ((gd2 = false ∧ th2 = 1 ∧ z = 0) ∨ (gd2 = true ∧ th2 = 0 ∧ z = (cN (fun a => mfr Ld2 a a) (2 * nv).toNat : Int))) ∧ v7 = some (.int (iI z)) ∧ w7 = [ceO 7 mo [.int (iI th2), .int (iI n), .int (iI ac), .ref tha, .int (iI (bZ gk)), .ref rea, .ref poa, .int (iI mn), .ref cha, .ref goa, .ref lea, .int (iI nv), .int (iI mm), .ref fia, .ref sea, .int (iI (bZ true)), .ref sta, .ref lda, .ref vla, .int (iI (bZ gd2)), .int (iI fl2), .ref dia, .ref qua], ceI G fia 400 f1, ceI G sea 400 f2, ceZ G sta 25600 (fz S2), ceZ G lda 25600 (fz Ld2), ceI G vla 160 V2]) := by
  refine vv_met (by decide +kernel) (Nat.le_of_ble_eq_true rfl) rfl ?_
  intro p e s m args below meth c A F
  refine vv_aload_n F zd_MO_classes_0 rfl 0 rfl ?_
  refine vv_callV (q0 := 0) (As := []) (rest := []) (wr := []) F (cn_MO_knowClauses l G mo th n ac tha gk rea poa mn cha goa lea nv mm fia sea ck sta lda vla gd fl dia qua f1 f2 S Ld V hv hm hf hc) zm_MO_knowClauses ⟨zw_941, zs_MO_knowClauses⟩ zw_939 zd_MO_classes_1 ⟨by decide, by decide⟩ ⟨by decide, by decide⟩ [0, 1, 2, 3, 4, 5] [] rfl rfl ⟨rfl, rfl, by decide⟩ rfl rfl rfl rfl (Nat.le_of_ble_eq_true rfl) (fun v9 w9 hp9 => ?_)
  obtain ⟨S2_1, Ld2_2, V2_3, gd2_4, fl2_5, hf1_0, rfl, rfl⟩ := hp9
  refine vv_thenE (ws' := [ceO 7 mo [.int (iI th), .int (iI n), .int (iI ac), .ref tha, .int (iI (bZ gk)), .ref rea, .ref poa, .int (iI mn), .ref cha, .ref goa, .ref lea, .int (iI nv), .int (iI mm), .ref fia, .ref sea, .int (iI (bZ true)), .ref sta, .ref lda, .ref vla, .int (iI (bZ gd2_4)), .int (iI fl2_5), .ref dia, .ref qua], ceI G fia 400 f1, ceI G sea 400 f2, ceZ G sta 25600 (fz S2_1), ceZ G lda 25600 (fz Ld2_2), ceI G vla 160 V2_3]) (st' := []) (kc' := 0) (ks' := 0) [0, 1, 2, 3, 4, 5] rfl rfl rfl ?_
  have hfr := fai_rg hf1_0.2.2.1
  refine vv_aload_n F zd_MO_classes_4 rfl 0 rfl ?_
  refine vv_aload_n F zd_MO_classes_5 rfl 0 rfl ?_
  refine vv_get F zd_MO_classes_6 zf_MO 0 rfl rfl 19 (by decide) zw_775 rfl ?_
  refine vv_if_eq (tgt := 16) F zd_MO_classes_9 rfl (bZ_rg _) (fun h1 => ?_) (fun h1 => ?_)
  · have h1 : gd2_4 = false := (bZ_0 _).mp h1
    refine vv_iconst F zd_MO_classes_16 ?_
    refine vv_put (v := .int (iI 1)) (ws' := [ceO 7 mo [.int (iI 1), .int (iI n), .int (iI ac), .ref tha, .int (iI (bZ gk)), .ref rea, .ref poa, .int (iI mn), .ref cha, .ref goa, .ref lea, .int (iI nv), .int (iI mm), .ref fia, .ref sea, .int (iI (bZ true)), .ref sta, .ref lda, .ref vla, .int (iI (bZ gd2_4)), .int (iI fl2_5), .ref dia, .ref qua], ceI G fia 400 f1, ceI G sea 400 f2, ceZ G sta 25600 (fz S2_1), ceZ G lda 25600 (fz Ld2_2), ceI G vla 160 V2_3]) F zd_MO_classes_17 zf_MO zt_MO_ok zn_MO 0 rfl rfl 0 (by decide) zw_756 rfl rfl rfl (Nat.le_of_ble_eq_true rfl) rfl ?_
    refine vv_iconst F zd_MO_classes_20 ?_
    refine vv_istore_n (lv' := [(0, .ref mo), (1, .int (iI 0))]) F zd_MO_classes_21 rfl (by decide) [1, 0] rfl ?_
    refine vv_iconst F zd_MO_classes_22 ?_
    refine vv_istore_n (lv' := [(0, .ref mo), (1, .int (iI 0)), (2, .int (iI 0))]) F zd_MO_classes_23 rfl (by decide) [1, 2, 0] rfl ?_
    refine vv_iload_n F zd_MO_classes_24 rfl 2 rfl ?_
    refine vv_iconst F zd_MO_classes_25 ?_
    refine vv_aload_n F zd_MO_classes_26 rfl 0 rfl ?_
    refine vv_get F zd_MO_classes_27 zf_MO 0 rfl rfl 11 (by decide) zw_767 rfl ?_
    refine vv_imul F zd_MO_classes_30 ?_
    refine vv_icmp_ge (tgt := 106) F zd_MO_classes_31 rfl (by decide) (by first | exact ⟨by omega, by omega⟩) (fun h9 => absurd h9 (by omega)) (fun _ => ?_)
    refine vv_aload_n F zd_MO_classes_34 rfl 0 rfl ?_
    refine vv_get F zd_MO_classes_35 zf_MO 0 rfl rfl 19 (by decide) zw_775 rfl ?_
    refine vv_if_eq (tgt := 106) F zd_MO_classes_38 rfl (bZ_rg _) (fun _ => ?_) (fun h9 => absurd h9 (fun q => q (by rw [h1]; rfl)))
    refine vv_iload_n F zd_MO_classes_106 rfl 1 rfl ?_
    exact vv_iret F zd_MO_classes_107 ⟨_, _, _, _, _, _, _, hf1_0, Or.inl ⟨h1, rfl, rfl⟩, rfl, rfl⟩
  · have h1 : gd2_4 = true := by cases hb9 : gd2_4 with | true => rfl | false => exact absurd ((bZ_0 _).mpr hb9) h1
    refine vv_iconst F zd_MO_classes_12 ?_
    refine vv_goto (tgt := 17) F zd_MO_classes_13 rfl ?_
    refine vv_put (v := .int (iI 0)) (ws' := [ceO 7 mo [.int (iI 0), .int (iI n), .int (iI ac), .ref tha, .int (iI (bZ gk)), .ref rea, .ref poa, .int (iI mn), .ref cha, .ref goa, .ref lea, .int (iI nv), .int (iI mm), .ref fia, .ref sea, .int (iI (bZ true)), .ref sta, .ref lda, .ref vla, .int (iI (bZ gd2_4)), .int (iI fl2_5), .ref dia, .ref qua], ceI G fia 400 f1, ceI G sea 400 f2, ceZ G sta 25600 (fz S2_1), ceZ G lda 25600 (fz Ld2_2), ceI G vla 160 V2_3]) F zd_MO_classes_17 zf_MO zt_MO_ok zn_MO 0 rfl rfl 0 (by decide) zw_756 rfl rfl rfl (Nat.le_of_ble_eq_true rfl) rfl ?_
    refine vv_iconst F zd_MO_classes_20 ?_
    refine vv_istore_n (lv' := [(0, .ref mo), (1, .int (iI 0))]) F zd_MO_classes_21 rfl (by decide) [1, 0] rfl ?_
    refine vv_iconst F zd_MO_classes_22 ?_
    refine vv_istore_n (lv' := [(0, .ref mo), (1, .int (iI 0)), (2, .int (iI 0))]) F zd_MO_classes_23 rfl (by decide) [1, 2, 0] rfl ?_
    refine lp_MO_cs F mo 0 n ac tha gk rea poa mn cha goa lea nv mm fia sea true sta lda vla gd2_4 fl2_5 dia qua f1 f2 S2_1 Ld2_2 V2_3 hv h1 (fun z9 hI => ?_) (2 * nv).toNat 0 0 (by omega) ⟨by omega, rfl⟩
    refine vv_iload_n F zd_MO_classes_106 rfl 1 rfl ?_
    exact vv_iret F zd_MO_classes_107 ⟨_, _, _, _, _, _, _, hf1_0, Or.inr ⟨h1, rfl, hI.2⟩, rfl, rfl⟩

set_option maxHeartbeats 4000000 in
set_option maxRecDepth 100000 in
theorem cn_MO_init (l : Launch) (G : vv_G) (mo : Nat)  :
    vv_C l zy_MO_init zc_MO_init 1 none { frames := 1, cells := 13, slots := 129760, locals := 20 } G [.ref mo] [ceO 7 mo [.int (iI 0), .int (iI 0), .int (iI 0), .null, .int (iI (bZ false)), .null, .null, .int (iI 0), .null, .null, .null, .int (iI 0), .int (iI 0), .null, .null, .int (iI (bZ false)), .null, .null, .null, .int (iI (bZ false)), .int (iI 0), .null, .null]] (fun v7 w7 => ∃ (tha : Nat) (rea : Nat) (poa : Nat) (cha : Nat) (goa : Nat) (lea : Nat) (fia : Nat) (sea : Nat) (sta : Nat) (lda : Nat) (vla : Nat) (dia : Nat) (qua : Nat), v7 = none ∧ w7 = [ceO 7 mo [.int (iI 0), .int (iI 1), .int (iI 0), .ref tha, .int (iI (bZ false)), .ref rea, .ref poa, .int (iI 0), .ref cha, .ref goa, .ref lea, .int (iI 1), .int (iI 0), .ref fia, .ref sea, .int (iI (bZ false)), .ref sta, .ref lda, .ref vla, .int (iI (bZ false)), .int (iI 0), .ref dia, .ref qua], ceZ G tha 25600 (fun _ => false), ceZ G rea 25600 (fun _ => false), ceI G poa 160 (fun _ => 0), ceI G cha 160 (fun _ => 0), ceZ G goa 25600 (fun _ => false), ceI G lea 160 (fun _ => 0), ceI G fia 400 (fun _ => 0), ceI G sea 400 (fun _ => 0), ceZ G sta 25600 (fun _ => false), ceZ G lda 25600 (fun _ => false), ceI G vla 160 (fun _ => 0), ceI G dia 160 (fun _ => 0), ceI G qua 160 (fun _ => 0)]) := by
  refine vv_met (by decide +kernel) (Nat.le_of_ble_eq_true rfl) rfl ?_
  intro p e s m args below meth c A F
  refine vv_aload_n F zd_MO_init_0 rfl 0 rfl ?_
  refine vv_objInit F zd_MO_init_1 zw_755 zw_25 zw_26 (Nat.le_of_ble_eq_true rfl) (by decide) (by decide) ?_
  refine vv_aload_n F zd_MO_init_4 rfl 0 rfl ?_
  refine vv_iconst F zd_MO_init_5 ?_
  refine vv_put (v := .int (iI 1)) (ws' := [ceO 7 mo [.int (iI 0), .int (iI 1), .int (iI 0), .null, .int (iI (bZ false)), .null, .null, .int (iI 0), .null, .null, .null, .int (iI 0), .int (iI 0), .null, .null, .int (iI (bZ false)), .null, .null, .null, .int (iI (bZ false)), .int (iI 0), .null, .null]]) F zd_MO_init_6 zf_MO zt_MO_ok zn_MO 0 rfl rfl 1 (by decide) zw_757 rfl rfl rfl (Nat.le_of_ble_eq_true rfl) rfl ?_
  refine vv_aload_n F zd_MO_init_9 rfl 0 rfl ?_
  refine vv_sipush F zd_MO_init_10 (by decide) ?_
  refine vv_newaZ (N := 25600) F zd_MO_init_13 zw_826 rfl (by omega) (by decide) (by decide) (fun a1 => ?_)
  show vv_V _ _ _ _ _ _ _ _ _ _ _ _ _ _ _ [(0, .ref mo)] [.ref a1, .ref mo] [ceO 7 mo [.int (iI 0), .int (iI 1), .int (iI 0), .null, .int (iI (bZ false)), .null, .null, .int (iI 0), .null, .null, .null, .int (iI 0), .int (iI 0), .null, .null, .int (iI (bZ false)), .null, .null, .null, .int (iI (bZ false)), .int (iI 0), .null, .null], ceZ G a1 25600 (fun _ => false)] 1 25600
  refine vv_putF (v := .ref a1) (ws' := [ceO 7 mo [.int (iI 0), .int (iI 1), .int (iI 0), .ref a1, .int (iI (bZ false)), .null, .null, .int (iI 0), .null, .null, .null, .int (iI 0), .int (iI 0), .null, .null, .int (iI (bZ false)), .null, .null, .null, .int (iI (bZ false)), .int (iI 0), .null, .null], ceZ G a1 25600 (fun _ => false)]) F zd_MO_init_15 zf_MO zt_MO_ok zn_MO 0 rfl rfl 3 (by decide) zw_759 rfl rfl rfl rfl (Nat.le_of_ble_eq_true rfl) rfl ?_
  refine vv_aload_n F zd_MO_init_18 rfl 0 rfl ?_
  refine vv_sipush F zd_MO_init_19 (by decide) ?_
  refine vv_newaZ (N := 25600) F zd_MO_init_22 zw_826 rfl (by omega) (by decide) (by decide) (fun a2 => ?_)
  show vv_V _ _ _ _ _ _ _ _ _ _ _ _ _ _ _ [(0, .ref mo)] [.ref a2, .ref mo] [ceO 7 mo [.int (iI 0), .int (iI 1), .int (iI 0), .ref a1, .int (iI (bZ false)), .null, .null, .int (iI 0), .null, .null, .null, .int (iI 0), .int (iI 0), .null, .null, .int (iI (bZ false)), .null, .null, .null, .int (iI (bZ false)), .int (iI 0), .null, .null], ceZ G a1 25600 (fun _ => false), ceZ G a2 25600 (fun _ => false)] 2 51200
  refine vv_putF (v := .ref a2) (ws' := [ceO 7 mo [.int (iI 0), .int (iI 1), .int (iI 0), .ref a1, .int (iI (bZ false)), .ref a2, .null, .int (iI 0), .null, .null, .null, .int (iI 0), .int (iI 0), .null, .null, .int (iI (bZ false)), .null, .null, .null, .int (iI (bZ false)), .int (iI 0), .null, .null], ceZ G a1 25600 (fun _ => false), ceZ G a2 25600 (fun _ => false)]) F zd_MO_init_24 zf_MO zt_MO_ok zn_MO 0 rfl rfl 5 (by decide) zw_761 rfl rfl rfl rfl (Nat.le_of_ble_eq_true rfl) rfl ?_
  refine vv_aload_n F zd_MO_init_27 rfl 0 rfl ?_
  refine vv_sipush F zd_MO_init_28 (by decide) ?_
  refine vv_newaI (N := 160) F zd_MO_init_31 zw_43 rfl (by omega) (by decide) (by decide) (fun a3 => ?_)
  show vv_V _ _ _ _ _ _ _ _ _ _ _ _ _ _ _ [(0, .ref mo)] [.ref a3, .ref mo] [ceO 7 mo [.int (iI 0), .int (iI 1), .int (iI 0), .ref a1, .int (iI (bZ false)), .ref a2, .null, .int (iI 0), .null, .null, .null, .int (iI 0), .int (iI 0), .null, .null, .int (iI (bZ false)), .null, .null, .null, .int (iI (bZ false)), .int (iI 0), .null, .null], ceZ G a1 25600 (fun _ => false), ceZ G a2 25600 (fun _ => false), ceI G a3 160 (fun _ => 0)] 3 51360
  refine vv_putF (v := .ref a3) (ws' := [ceO 7 mo [.int (iI 0), .int (iI 1), .int (iI 0), .ref a1, .int (iI (bZ false)), .ref a2, .ref a3, .int (iI 0), .null, .null, .null, .int (iI 0), .int (iI 0), .null, .null, .int (iI (bZ false)), .null, .null, .null, .int (iI (bZ false)), .int (iI 0), .null, .null], ceZ G a1 25600 (fun _ => false), ceZ G a2 25600 (fun _ => false), ceI G a3 160 (fun _ => 0)]) F zd_MO_init_33 zf_MO zt_MO_ok zn_MO 0 rfl rfl 6 (by decide) zw_762 rfl rfl rfl rfl (Nat.le_of_ble_eq_true rfl) rfl ?_
  refine vv_aload_n F zd_MO_init_36 rfl 0 rfl ?_
  refine vv_sipush F zd_MO_init_37 (by decide) ?_
  refine vv_newaI (N := 160) F zd_MO_init_40 zw_43 rfl (by omega) (by decide) (by decide) (fun a4 => ?_)
  show vv_V _ _ _ _ _ _ _ _ _ _ _ _ _ _ _ [(0, .ref mo)] [.ref a4, .ref mo] [ceO 7 mo [.int (iI 0), .int (iI 1), .int (iI 0), .ref a1, .int (iI (bZ false)), .ref a2, .ref a3, .int (iI 0), .null, .null, .null, .int (iI 0), .int (iI 0), .null, .null, .int (iI (bZ false)), .null, .null, .null, .int (iI (bZ false)), .int (iI 0), .null, .null], ceZ G a1 25600 (fun _ => false), ceZ G a2 25600 (fun _ => false), ceI G a3 160 (fun _ => 0), ceI G a4 160 (fun _ => 0)] 4 51520
  refine vv_putF (v := .ref a4) (ws' := [ceO 7 mo [.int (iI 0), .int (iI 1), .int (iI 0), .ref a1, .int (iI (bZ false)), .ref a2, .ref a3, .int (iI 0), .ref a4, .null, .null, .int (iI 0), .int (iI 0), .null, .null, .int (iI (bZ false)), .null, .null, .null, .int (iI (bZ false)), .int (iI 0), .null, .null], ceZ G a1 25600 (fun _ => false), ceZ G a2 25600 (fun _ => false), ceI G a3 160 (fun _ => 0), ceI G a4 160 (fun _ => 0)]) F zd_MO_init_42 zf_MO zt_MO_ok zn_MO 0 rfl rfl 8 (by decide) zw_764 rfl rfl rfl rfl (Nat.le_of_ble_eq_true rfl) rfl ?_
  refine vv_aload_n F zd_MO_init_45 rfl 0 rfl ?_
  refine vv_sipush F zd_MO_init_46 (by decide) ?_
  refine vv_newaZ (N := 25600) F zd_MO_init_49 zw_826 rfl (by omega) (by decide) (by decide) (fun a5 => ?_)
  show vv_V _ _ _ _ _ _ _ _ _ _ _ _ _ _ _ [(0, .ref mo)] [.ref a5, .ref mo] [ceO 7 mo [.int (iI 0), .int (iI 1), .int (iI 0), .ref a1, .int (iI (bZ false)), .ref a2, .ref a3, .int (iI 0), .ref a4, .null, .null, .int (iI 0), .int (iI 0), .null, .null, .int (iI (bZ false)), .null, .null, .null, .int (iI (bZ false)), .int (iI 0), .null, .null], ceZ G a1 25600 (fun _ => false), ceZ G a2 25600 (fun _ => false), ceI G a3 160 (fun _ => 0), ceI G a4 160 (fun _ => 0), ceZ G a5 25600 (fun _ => false)] 5 77120
  refine vv_putF (v := .ref a5) (ws' := [ceO 7 mo [.int (iI 0), .int (iI 1), .int (iI 0), .ref a1, .int (iI (bZ false)), .ref a2, .ref a3, .int (iI 0), .ref a4, .ref a5, .null, .int (iI 0), .int (iI 0), .null, .null, .int (iI (bZ false)), .null, .null, .null, .int (iI (bZ false)), .int (iI 0), .null, .null], ceZ G a1 25600 (fun _ => false), ceZ G a2 25600 (fun _ => false), ceI G a3 160 (fun _ => 0), ceI G a4 160 (fun _ => 0), ceZ G a5 25600 (fun _ => false)]) F zd_MO_init_51 zf_MO zt_MO_ok zn_MO 0 rfl rfl 9 (by decide) zw_765 rfl rfl rfl rfl (Nat.le_of_ble_eq_true rfl) rfl ?_
  refine vv_aload_n F zd_MO_init_54 rfl 0 rfl ?_
  refine vv_sipush F zd_MO_init_55 (by decide) ?_
  refine vv_newaI (N := 160) F zd_MO_init_58 zw_43 rfl (by omega) (by decide) (by decide) (fun a6 => ?_)
  show vv_V _ _ _ _ _ _ _ _ _ _ _ _ _ _ _ [(0, .ref mo)] [.ref a6, .ref mo] [ceO 7 mo [.int (iI 0), .int (iI 1), .int (iI 0), .ref a1, .int (iI (bZ false)), .ref a2, .ref a3, .int (iI 0), .ref a4, .ref a5, .null, .int (iI 0), .int (iI 0), .null, .null, .int (iI (bZ false)), .null, .null, .null, .int (iI (bZ false)), .int (iI 0), .null, .null], ceZ G a1 25600 (fun _ => false), ceZ G a2 25600 (fun _ => false), ceI G a3 160 (fun _ => 0), ceI G a4 160 (fun _ => 0), ceZ G a5 25600 (fun _ => false), ceI G a6 160 (fun _ => 0)] 6 77280
  refine vv_putF (v := .ref a6) (ws' := [ceO 7 mo [.int (iI 0), .int (iI 1), .int (iI 0), .ref a1, .int (iI (bZ false)), .ref a2, .ref a3, .int (iI 0), .ref a4, .ref a5, .ref a6, .int (iI 0), .int (iI 0), .null, .null, .int (iI (bZ false)), .null, .null, .null, .int (iI (bZ false)), .int (iI 0), .null, .null], ceZ G a1 25600 (fun _ => false), ceZ G a2 25600 (fun _ => false), ceI G a3 160 (fun _ => 0), ceI G a4 160 (fun _ => 0), ceZ G a5 25600 (fun _ => false), ceI G a6 160 (fun _ => 0)]) F zd_MO_init_60 zf_MO zt_MO_ok zn_MO 0 rfl rfl 10 (by decide) zw_766 rfl rfl rfl rfl (Nat.le_of_ble_eq_true rfl) rfl ?_
  refine vv_aload_n F zd_MO_init_63 rfl 0 rfl ?_
  refine vv_iconst F zd_MO_init_64 ?_
  refine vv_put (v := .int (iI 1)) (ws' := [ceO 7 mo [.int (iI 0), .int (iI 1), .int (iI 0), .ref a1, .int (iI (bZ false)), .ref a2, .ref a3, .int (iI 0), .ref a4, .ref a5, .ref a6, .int (iI 1), .int (iI 0), .null, .null, .int (iI (bZ false)), .null, .null, .null, .int (iI (bZ false)), .int (iI 0), .null, .null], ceZ G a1 25600 (fun _ => false), ceZ G a2 25600 (fun _ => false), ceI G a3 160 (fun _ => 0), ceI G a4 160 (fun _ => 0), ceZ G a5 25600 (fun _ => false), ceI G a6 160 (fun _ => 0)]) F zd_MO_init_65 zf_MO zt_MO_ok zn_MO 0 rfl rfl 11 (by decide) zw_767 rfl rfl rfl (Nat.le_of_ble_eq_true rfl) rfl ?_
  refine vv_aload_n F zd_MO_init_68 rfl 0 rfl ?_
  refine vv_sipush F zd_MO_init_69 (by decide) ?_
  refine vv_newaI (N := 400) F zd_MO_init_72 zw_43 rfl (by omega) (by decide) (by decide) (fun a7 => ?_)
  show vv_V _ _ _ _ _ _ _ _ _ _ _ _ _ _ _ [(0, .ref mo)] [.ref a7, .ref mo] [ceO 7 mo [.int (iI 0), .int (iI 1), .int (iI 0), .ref a1, .int (iI (bZ false)), .ref a2, .ref a3, .int (iI 0), .ref a4, .ref a5, .ref a6, .int (iI 1), .int (iI 0), .null, .null, .int (iI (bZ false)), .null, .null, .null, .int (iI (bZ false)), .int (iI 0), .null, .null], ceZ G a1 25600 (fun _ => false), ceZ G a2 25600 (fun _ => false), ceI G a3 160 (fun _ => 0), ceI G a4 160 (fun _ => 0), ceZ G a5 25600 (fun _ => false), ceI G a6 160 (fun _ => 0), ceI G a7 400 (fun _ => 0)] 7 77680
  refine vv_putF (v := .ref a7) (ws' := [ceO 7 mo [.int (iI 0), .int (iI 1), .int (iI 0), .ref a1, .int (iI (bZ false)), .ref a2, .ref a3, .int (iI 0), .ref a4, .ref a5, .ref a6, .int (iI 1), .int (iI 0), .ref a7, .null, .int (iI (bZ false)), .null, .null, .null, .int (iI (bZ false)), .int (iI 0), .null, .null], ceZ G a1 25600 (fun _ => false), ceZ G a2 25600 (fun _ => false), ceI G a3 160 (fun _ => 0), ceI G a4 160 (fun _ => 0), ceZ G a5 25600 (fun _ => false), ceI G a6 160 (fun _ => 0), ceI G a7 400 (fun _ => 0)]) F zd_MO_init_74 zf_MO zt_MO_ok zn_MO 0 rfl rfl 13 (by decide) zw_769 rfl rfl rfl rfl (Nat.le_of_ble_eq_true rfl) rfl ?_
  refine vv_aload_n F zd_MO_init_77 rfl 0 rfl ?_
  refine vv_sipush F zd_MO_init_78 (by decide) ?_
  refine vv_newaI (N := 400) F zd_MO_init_81 zw_43 rfl (by omega) (by decide) (by decide) (fun a8 => ?_)
  show vv_V _ _ _ _ _ _ _ _ _ _ _ _ _ _ _ [(0, .ref mo)] [.ref a8, .ref mo] [ceO 7 mo [.int (iI 0), .int (iI 1), .int (iI 0), .ref a1, .int (iI (bZ false)), .ref a2, .ref a3, .int (iI 0), .ref a4, .ref a5, .ref a6, .int (iI 1), .int (iI 0), .ref a7, .null, .int (iI (bZ false)), .null, .null, .null, .int (iI (bZ false)), .int (iI 0), .null, .null], ceZ G a1 25600 (fun _ => false), ceZ G a2 25600 (fun _ => false), ceI G a3 160 (fun _ => 0), ceI G a4 160 (fun _ => 0), ceZ G a5 25600 (fun _ => false), ceI G a6 160 (fun _ => 0), ceI G a7 400 (fun _ => 0), ceI G a8 400 (fun _ => 0)] 8 78080
  refine vv_putF (v := .ref a8) (ws' := [ceO 7 mo [.int (iI 0), .int (iI 1), .int (iI 0), .ref a1, .int (iI (bZ false)), .ref a2, .ref a3, .int (iI 0), .ref a4, .ref a5, .ref a6, .int (iI 1), .int (iI 0), .ref a7, .ref a8, .int (iI (bZ false)), .null, .null, .null, .int (iI (bZ false)), .int (iI 0), .null, .null], ceZ G a1 25600 (fun _ => false), ceZ G a2 25600 (fun _ => false), ceI G a3 160 (fun _ => 0), ceI G a4 160 (fun _ => 0), ceZ G a5 25600 (fun _ => false), ceI G a6 160 (fun _ => 0), ceI G a7 400 (fun _ => 0), ceI G a8 400 (fun _ => 0)]) F zd_MO_init_83 zf_MO zt_MO_ok zn_MO 0 rfl rfl 14 (by decide) zw_770 rfl rfl rfl rfl (Nat.le_of_ble_eq_true rfl) rfl ?_
  refine vv_aload_n F zd_MO_init_86 rfl 0 rfl ?_
  refine vv_sipush F zd_MO_init_87 (by decide) ?_
  refine vv_newaZ (N := 25600) F zd_MO_init_90 zw_826 rfl (by omega) (by decide) (by decide) (fun a9 => ?_)
  show vv_V _ _ _ _ _ _ _ _ _ _ _ _ _ _ _ [(0, .ref mo)] [.ref a9, .ref mo] [ceO 7 mo [.int (iI 0), .int (iI 1), .int (iI 0), .ref a1, .int (iI (bZ false)), .ref a2, .ref a3, .int (iI 0), .ref a4, .ref a5, .ref a6, .int (iI 1), .int (iI 0), .ref a7, .ref a8, .int (iI (bZ false)), .null, .null, .null, .int (iI (bZ false)), .int (iI 0), .null, .null], ceZ G a1 25600 (fun _ => false), ceZ G a2 25600 (fun _ => false), ceI G a3 160 (fun _ => 0), ceI G a4 160 (fun _ => 0), ceZ G a5 25600 (fun _ => false), ceI G a6 160 (fun _ => 0), ceI G a7 400 (fun _ => 0), ceI G a8 400 (fun _ => 0), ceZ G a9 25600 (fun _ => false)] 9 103680
  refine vv_putF (v := .ref a9) (ws' := [ceO 7 mo [.int (iI 0), .int (iI 1), .int (iI 0), .ref a1, .int (iI (bZ false)), .ref a2, .ref a3, .int (iI 0), .ref a4, .ref a5, .ref a6, .int (iI 1), .int (iI 0), .ref a7, .ref a8, .int (iI (bZ false)), .ref a9, .null, .null, .int (iI (bZ false)), .int (iI 0), .null, .null], ceZ G a1 25600 (fun _ => false), ceZ G a2 25600 (fun _ => false), ceI G a3 160 (fun _ => 0), ceI G a4 160 (fun _ => 0), ceZ G a5 25600 (fun _ => false), ceI G a6 160 (fun _ => 0), ceI G a7 400 (fun _ => 0), ceI G a8 400 (fun _ => 0), ceZ G a9 25600 (fun _ => false)]) F zd_MO_init_92 zf_MO zt_MO_ok zn_MO 0 rfl rfl 16 (by decide) zw_772 rfl rfl rfl rfl (Nat.le_of_ble_eq_true rfl) rfl ?_
  refine vv_aload_n F zd_MO_init_95 rfl 0 rfl ?_
  refine vv_sipush F zd_MO_init_96 (by decide) ?_
  refine vv_newaZ (N := 25600) F zd_MO_init_99 zw_826 rfl (by omega) (by decide) (by decide) (fun a10 => ?_)
  show vv_V _ _ _ _ _ _ _ _ _ _ _ _ _ _ _ [(0, .ref mo)] [.ref a10, .ref mo] [ceO 7 mo [.int (iI 0), .int (iI 1), .int (iI 0), .ref a1, .int (iI (bZ false)), .ref a2, .ref a3, .int (iI 0), .ref a4, .ref a5, .ref a6, .int (iI 1), .int (iI 0), .ref a7, .ref a8, .int (iI (bZ false)), .ref a9, .null, .null, .int (iI (bZ false)), .int (iI 0), .null, .null], ceZ G a1 25600 (fun _ => false), ceZ G a2 25600 (fun _ => false), ceI G a3 160 (fun _ => 0), ceI G a4 160 (fun _ => 0), ceZ G a5 25600 (fun _ => false), ceI G a6 160 (fun _ => 0), ceI G a7 400 (fun _ => 0), ceI G a8 400 (fun _ => 0), ceZ G a9 25600 (fun _ => false), ceZ G a10 25600 (fun _ => false)] 10 129280
  refine vv_putF (v := .ref a10) (ws' := [ceO 7 mo [.int (iI 0), .int (iI 1), .int (iI 0), .ref a1, .int (iI (bZ false)), .ref a2, .ref a3, .int (iI 0), .ref a4, .ref a5, .ref a6, .int (iI 1), .int (iI 0), .ref a7, .ref a8, .int (iI (bZ false)), .ref a9, .ref a10, .null, .int (iI (bZ false)), .int (iI 0), .null, .null], ceZ G a1 25600 (fun _ => false), ceZ G a2 25600 (fun _ => false), ceI G a3 160 (fun _ => 0), ceI G a4 160 (fun _ => 0), ceZ G a5 25600 (fun _ => false), ceI G a6 160 (fun _ => 0), ceI G a7 400 (fun _ => 0), ceI G a8 400 (fun _ => 0), ceZ G a9 25600 (fun _ => false), ceZ G a10 25600 (fun _ => false)]) F zd_MO_init_101 zf_MO zt_MO_ok zn_MO 0 rfl rfl 17 (by decide) zw_773 rfl rfl rfl rfl (Nat.le_of_ble_eq_true rfl) rfl ?_
  refine vv_aload_n F zd_MO_init_104 rfl 0 rfl ?_
  refine vv_sipush F zd_MO_init_105 (by decide) ?_
  refine vv_newaI (N := 160) F zd_MO_init_108 zw_43 rfl (by omega) (by decide) (by decide) (fun a11 => ?_)
  show vv_V _ _ _ _ _ _ _ _ _ _ _ _ _ _ _ [(0, .ref mo)] [.ref a11, .ref mo] [ceO 7 mo [.int (iI 0), .int (iI 1), .int (iI 0), .ref a1, .int (iI (bZ false)), .ref a2, .ref a3, .int (iI 0), .ref a4, .ref a5, .ref a6, .int (iI 1), .int (iI 0), .ref a7, .ref a8, .int (iI (bZ false)), .ref a9, .ref a10, .null, .int (iI (bZ false)), .int (iI 0), .null, .null], ceZ G a1 25600 (fun _ => false), ceZ G a2 25600 (fun _ => false), ceI G a3 160 (fun _ => 0), ceI G a4 160 (fun _ => 0), ceZ G a5 25600 (fun _ => false), ceI G a6 160 (fun _ => 0), ceI G a7 400 (fun _ => 0), ceI G a8 400 (fun _ => 0), ceZ G a9 25600 (fun _ => false), ceZ G a10 25600 (fun _ => false), ceI G a11 160 (fun _ => 0)] 11 129440
  refine vv_putF (v := .ref a11) (ws' := [ceO 7 mo [.int (iI 0), .int (iI 1), .int (iI 0), .ref a1, .int (iI (bZ false)), .ref a2, .ref a3, .int (iI 0), .ref a4, .ref a5, .ref a6, .int (iI 1), .int (iI 0), .ref a7, .ref a8, .int (iI (bZ false)), .ref a9, .ref a10, .ref a11, .int (iI (bZ false)), .int (iI 0), .null, .null], ceZ G a1 25600 (fun _ => false), ceZ G a2 25600 (fun _ => false), ceI G a3 160 (fun _ => 0), ceI G a4 160 (fun _ => 0), ceZ G a5 25600 (fun _ => false), ceI G a6 160 (fun _ => 0), ceI G a7 400 (fun _ => 0), ceI G a8 400 (fun _ => 0), ceZ G a9 25600 (fun _ => false), ceZ G a10 25600 (fun _ => false), ceI G a11 160 (fun _ => 0)]) F zd_MO_init_110 zf_MO zt_MO_ok zn_MO 0 rfl rfl 18 (by decide) zw_774 rfl rfl rfl rfl (Nat.le_of_ble_eq_true rfl) rfl ?_
  refine vv_aload_n F zd_MO_init_113 rfl 0 rfl ?_
  refine vv_sipush F zd_MO_init_114 (by decide) ?_
  refine vv_newaI (N := 160) F zd_MO_init_117 zw_43 rfl (by omega) (by decide) (by decide) (fun a12 => ?_)
  show vv_V _ _ _ _ _ _ _ _ _ _ _ _ _ _ _ [(0, .ref mo)] [.ref a12, .ref mo] [ceO 7 mo [.int (iI 0), .int (iI 1), .int (iI 0), .ref a1, .int (iI (bZ false)), .ref a2, .ref a3, .int (iI 0), .ref a4, .ref a5, .ref a6, .int (iI 1), .int (iI 0), .ref a7, .ref a8, .int (iI (bZ false)), .ref a9, .ref a10, .ref a11, .int (iI (bZ false)), .int (iI 0), .null, .null], ceZ G a1 25600 (fun _ => false), ceZ G a2 25600 (fun _ => false), ceI G a3 160 (fun _ => 0), ceI G a4 160 (fun _ => 0), ceZ G a5 25600 (fun _ => false), ceI G a6 160 (fun _ => 0), ceI G a7 400 (fun _ => 0), ceI G a8 400 (fun _ => 0), ceZ G a9 25600 (fun _ => false), ceZ G a10 25600 (fun _ => false), ceI G a11 160 (fun _ => 0), ceI G a12 160 (fun _ => 0)] 12 129600
  refine vv_putF (v := .ref a12) (ws' := [ceO 7 mo [.int (iI 0), .int (iI 1), .int (iI 0), .ref a1, .int (iI (bZ false)), .ref a2, .ref a3, .int (iI 0), .ref a4, .ref a5, .ref a6, .int (iI 1), .int (iI 0), .ref a7, .ref a8, .int (iI (bZ false)), .ref a9, .ref a10, .ref a11, .int (iI (bZ false)), .int (iI 0), .ref a12, .null], ceZ G a1 25600 (fun _ => false), ceZ G a2 25600 (fun _ => false), ceI G a3 160 (fun _ => 0), ceI G a4 160 (fun _ => 0), ceZ G a5 25600 (fun _ => false), ceI G a6 160 (fun _ => 0), ceI G a7 400 (fun _ => 0), ceI G a8 400 (fun _ => 0), ceZ G a9 25600 (fun _ => false), ceZ G a10 25600 (fun _ => false), ceI G a11 160 (fun _ => 0), ceI G a12 160 (fun _ => 0)]) F zd_MO_init_119 zf_MO zt_MO_ok zn_MO 0 rfl rfl 21 (by decide) zw_777 rfl rfl rfl rfl (Nat.le_of_ble_eq_true rfl) rfl ?_
  refine vv_aload_n F zd_MO_init_122 rfl 0 rfl ?_
  refine vv_sipush F zd_MO_init_123 (by decide) ?_
  refine vv_newaI (N := 160) F zd_MO_init_126 zw_43 rfl (by omega) (by decide) (by decide) (fun a13 => ?_)
  show vv_V _ _ _ _ _ _ _ _ _ _ _ _ _ _ _ [(0, .ref mo)] [.ref a13, .ref mo] [ceO 7 mo [.int (iI 0), .int (iI 1), .int (iI 0), .ref a1, .int (iI (bZ false)), .ref a2, .ref a3, .int (iI 0), .ref a4, .ref a5, .ref a6, .int (iI 1), .int (iI 0), .ref a7, .ref a8, .int (iI (bZ false)), .ref a9, .ref a10, .ref a11, .int (iI (bZ false)), .int (iI 0), .ref a12, .null], ceZ G a1 25600 (fun _ => false), ceZ G a2 25600 (fun _ => false), ceI G a3 160 (fun _ => 0), ceI G a4 160 (fun _ => 0), ceZ G a5 25600 (fun _ => false), ceI G a6 160 (fun _ => 0), ceI G a7 400 (fun _ => 0), ceI G a8 400 (fun _ => 0), ceZ G a9 25600 (fun _ => false), ceZ G a10 25600 (fun _ => false), ceI G a11 160 (fun _ => 0), ceI G a12 160 (fun _ => 0), ceI G a13 160 (fun _ => 0)] 13 129760
  refine vv_putF (v := .ref a13) (ws' := [ceO 7 mo [.int (iI 0), .int (iI 1), .int (iI 0), .ref a1, .int (iI (bZ false)), .ref a2, .ref a3, .int (iI 0), .ref a4, .ref a5, .ref a6, .int (iI 1), .int (iI 0), .ref a7, .ref a8, .int (iI (bZ false)), .ref a9, .ref a10, .ref a11, .int (iI (bZ false)), .int (iI 0), .ref a12, .ref a13], ceZ G a1 25600 (fun _ => false), ceZ G a2 25600 (fun _ => false), ceI G a3 160 (fun _ => 0), ceI G a4 160 (fun _ => 0), ceZ G a5 25600 (fun _ => false), ceI G a6 160 (fun _ => 0), ceI G a7 400 (fun _ => 0), ceI G a8 400 (fun _ => 0), ceZ G a9 25600 (fun _ => false), ceZ G a10 25600 (fun _ => false), ceI G a11 160 (fun _ => 0), ceI G a12 160 (fun _ => 0), ceI G a13 160 (fun _ => 0)]) F zd_MO_init_128 zf_MO zt_MO_ok zn_MO 0 rfl rfl 22 (by decide) zw_778 rfl rfl rfl rfl (Nat.le_of_ble_eq_true rfl) rfl ?_
  exact vv_vret F zd_MO_init_131 ⟨_, _, _, _, _, _, _, _, _, _, _, _, _, rfl, rfl⟩
