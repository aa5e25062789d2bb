set_option maxHeartbeats 4000000 in
set_option maxRecDepth 100000 in
theorem lp_MO_d0 {p : Program} {l : Launch} {e : Env} {s : State} {m : MethodId} {args : Array Value} {below : List Frame} {meth : Method} {c : Code} {A : Nat → Prop} {Q : State → Prop} {G : vv_G} (F : vv_F p s m args meth c zc_MO_drawParts "ClauseGraphModel" "drawParts" none G A 3) (mo : Nat) (th : Int) (n : Int) (ac : Int) (tha : Nat) (gk : Bool) (rea : Nat) (poa : Nat) (mn : Int) (cha : Nat) (goa : Nat) (lea : Nat) (nv : Int) (mm : Int) (fia : Nat) (sea : Nat) (ck : Bool) (sta : Nat) (lda : Nat) (vla : Nat) (gd : Bool) (fl : Int) (dia : Nat) (qua : Nat) (B : Nat → Nat → Bool) (Nb : Nat → Int) (Ls : Nat → Int) 
    (k : ∀ (b : Nat → Bool), (0 ≤ (25600 : Int) ∧ ∀ j : Nat, (j : Int) < (25600 : Int) → b j = false) → vv_V p l e { frames := 1, cells := 0, slots := 0, locals := 21 } s m args below meth c G A 3 Q 22 [(0, .ref mo), (1, .int (iI (25600 : Int)))] [] [ceO 7 mo [.int (iI th), .int (iI n), .int (iI ac), .ref tha, .int (iI (bZ gk)), .ref rea, .ref poa, .int (iI mn), .ref cha, .ref goa, .ref lea, .int (iI nv), .int (iI mm), .ref fia, .ref sea, .int (iI (bZ ck)), .ref sta, .ref lda, .ref vla, .int (iI (bZ gd)), .int (iI fl), .ref dia, .ref qua], ceZ G tha 25600 (fz B), ceI G poa 160 Nb, ceZ G goa 25600 b, ceI G lea 160 Ls] 0 0)  :
    ∀ (d : Nat) (i : Int) (b : Nat → Bool), i + (d : Int) = (25600 : Int) → (0 ≤ i ∧ ∀ j : Nat, (j : Int) < i → b j = false) → vv_V p l e { frames := 1, cells := 0, slots := 0, locals := 21 } s m args below meth c G A 3 Q 2 [(0, .ref mo), (1, .int (iI i))] [] [ceO 7 mo [.int (iI th), .int (iI n), .int (iI ac), .ref tha, .int (iI (bZ gk)), .ref rea, .ref poa, .int (iI mn), .ref cha, .ref goa, .ref lea, .int (iI nv), .int (iI mm), .ref fia, .ref sea, .int (iI (bZ ck)), .ref sta, .ref lda, .ref vla, .int (iI (bZ gd)), .int (iI fl), .ref dia, .ref qua], ceZ G tha 25600 (fz B), ceI G poa 160 Nb, ceZ G goa 25600 b, ceI G lea 160 Ls] 0 0 := by
  intro d
  induction d with
  | zero =>
    intro i b hd hI
    have hz : i = (25600 : Int) := by omega
    subst hz
    refine vv_iload_n F zd_MO_drawParts_2 rfl 1 rfl ?_
    refine vv_sipush F zd_MO_drawParts_3 (by decide) ?_
    refine vv_icmp_ge (tgt := 22) F zd_MO_drawParts_6 rfl (by first | exact ⟨by omega, by omega⟩) (by decide) (fun _ => ?_) (fun h9 => absurd h9 (by omega))
    exact k b hI
  | succ d ih =>
    intro i b hd hI
    refine vv_iload_n F zd_MO_drawParts_2 rfl 1 rfl ?_
    refine vv_sipush F zd_MO_drawParts_3 (by decide) ?_
    refine vv_icmp_ge (tgt := 22) F zd_MO_drawParts_6 rfl (by first | exact ⟨by omega, by omega⟩) (by decide) (fun h9 => absurd h9 (by omega)) (fun _ => ?_)
    refine vv_aload_n F zd_MO_drawParts_9 rfl 0 rfl ?_
    refine vv_get F zd_MO_drawParts_10 zf_MO 0 rfl rfl 9 (by decide) zw_765 rfl ?_
    refine vv_iload_n F zd_MO_drawParts_13 rfl 1 rfl ?_
    refine vv_iconst F zd_MO_drawParts_14 ?_
    refine vv_ti (show (0 : Int) = bZ false from rfl) ?_
    refine vv_zast (x := false) (ws' := [ceO 7 mo [.int (iI th), .int (iI n), .int (iI ac), .ref tha, .int (iI (bZ gk)), .ref rea, .ref poa, .int (iI mn), .ref cha, .ref goa, .ref lea, .int (iI nv), .int (iI mm), .ref fia, .ref sea, .int (iI (bZ ck)), .ref sta, .ref lda, .ref vla, .int (iI (bZ gd)), .int (iI fl), .ref dia, .ref qua], ceZ G tha 25600 (fz B), ceI G poa 160 Nb, ceZ G goa 25600 (va_up b i.toNat false), ceI G lea 160 Ls]) F zd_MO_drawParts_15 3 rfl ⟨by omega, by omega⟩ (by decide) rfl ?_
    refine vv_iinc (j := 1) (lv' := [(0, .ref mo), (1, .int (iI (i + 1)))]) F zd_MO_drawParts_16 rfl (by decide) [1, 0] rfl ?_
    refine vv_goto (tgt := 2) F zd_MO_drawParts_19 rfl ?_
    exact ih (i + 1) (va_up b i.toNat false) (by omega) (⟨by omega, fun j hj => by
      by_cases z : j = i.toNat
      · rw [z, va_up_self]
      · rw [va_up_ne _ _ z]; exact hI.2 j (by omega)⟩)

set_option maxHeartbeats 4000000 in
set_option maxRecDepth 100000 in
theorem lp_MO_d1 {p : Program} {l : Launch} {e : Env} {s : State} {m : MethodId} {args : Array Value} {below : List Frame} {meth : Method} {c : Code} {A : Nat → Prop} {Q : State → Prop} {G : vv_G} (F : vv_F p s m args meth c zc_MO_drawParts "ClauseGraphModel" "drawParts" none G A 3) (mo : Nat) (th : Int) (n : Int) (ac : Int) (tha : Nat) (gk : Bool) (rea : Nat) (poa : Nat) (mn : Int) (cha : Nat) (goa : Nat) (lea : Nat) (nv : Int) (mm : Int) (fia : Nat) (sea : Nat) (ck : Bool) (sta : Nat) (lda : Nat) (vla : Nat) (gd : Bool) (fl : Int) (dia : Nat) (qua : Nat) (B : Nat → Nat → Bool) (Nb : Nat → Int) (Ls : Nat → Int) (i : Int) (hn : 1 ≤ n ∧ n ≤ 160) (hB : ∀ x y, B x y = true → x < n.toNat ∧ y < n.toNat) (hN : ∀ a, a < n.toNat → 0 ≤ Nb a ∧ Nb a < 160) (hi : 0 ≤ i ∧ i < n)
    (k : ∀ (D : Nat → Nat → Bool), (0 ≤ n ∧ drG B Nb (fun x y => i < (x : Int) ∨ (x = i.toNat ∧ (y : Int) < n)) D) → vv_V p l e { frames := 1, cells := 0, slots := 0, locals := 21 } s m args below meth c G A 3 Q 110 [(0, .ref mo), (1, .int (iI i)), (2, .int (iI n))] [] [ceO 7 mo [.int (iI th), .int (iI n), .int (iI ac), .ref tha, .int (iI (bZ gk)), .ref rea, .ref poa, .int (iI mn), .ref cha, .ref goa, .ref lea, .int (iI nv), .int (iI mm), .ref fia, .ref sea, .int (iI (bZ ck)), .ref sta, .ref lda, .ref vla, .int (iI (bZ gd)), .int (iI fl), .ref dia, .ref qua], ceZ G tha 25600 (fz B), ceI G poa 160 Nb, ceZ G goa 25600 (fz D), ceI G lea 160 Ls] 0 0)  :
    ∀ (d : Nat) (b : Int) (D : Nat → Nat → Bool), b + (d : Int) = n → (0 ≤ b ∧ drG B Nb (fun x y => i < (x : Int) ∨ (x = i.toNat ∧ (y : Int) < b)) D) → vv_V p l e { frames := 1, cells := 0, slots := 0, locals := 21 } s m args below meth c G A 3 Q 47 [(0, .ref mo), (1, .int (iI i)), (2, .int (iI b))] [] [ceO 7 mo [.int (iI th), .int (iI n), .int (iI ac), .ref tha, .int (iI (bZ gk)), .ref rea, .ref poa, .int (iI mn), .ref cha, .ref goa, .ref lea, .int (iI nv), .int (iI mm), .ref fia, .ref sea, .int (iI (bZ ck)), .ref sta, .ref lda, .ref vla, .int (iI (bZ gd)), .int (iI fl), .ref dia, .ref qua], ceZ G tha 25600 (fz B), ceI G poa 160 Nb, ceZ G goa 25600 (fz D), ceI G lea 160 Ls] 0 0 := by
  intro d
  induction d with
  | zero =>
    intro b D hd hI
    have hz : b = n := by omega
    subst hz
    refine vv_iload_n F zd_MO_drawParts_47 rfl 2 rfl ?_
    refine vv_aload_n F zd_MO_drawParts_48 rfl 0 rfl ?_
    refine vv_get F zd_MO_drawParts_49 zf_MO 0 rfl rfl 1 (by decide) zw_757 rfl ?_
    refine vv_icmp_ge (tgt := 110) F zd_MO_drawParts_52 rfl (by first | exact ⟨by omega, by omega⟩) (by first | exact ⟨by omega, by omega⟩) (fun _ => ?_) (fun h9 => absurd h9 (by omega))
    exact k D hI
  | succ d ih =>
    intro b D hd hI
    have n1 := hN i.toNat (by omega)
    have n2 := hN b.toNat (by omega)
    refine vv_iload_n F zd_MO_drawParts_47 rfl 2 rfl ?_
    refine vv_aload_n F zd_MO_drawParts_48 rfl 0 rfl ?_
    refine vv_get F zd_MO_drawParts_49 zf_MO 0 rfl rfl 1 (by decide) zw_757 rfl ?_
    refine vv_icmp_ge (tgt := 110) F zd_MO_drawParts_52 rfl (by first | exact ⟨by omega, by omega⟩) (by first | exact ⟨by omega, by omega⟩) (fun h9 => absurd h9 (by omega)) (fun _ => ?_)
    refine vv_aload_n F zd_MO_drawParts_55 rfl 0 rfl ?_
    refine vv_get F zd_MO_drawParts_56 zf_MO 0 rfl rfl 3 (by decide) zw_759 rfl ?_
    refine vv_iload_n F zd_MO_drawParts_59 rfl 1 rfl ?_
    refine vv_iload_n F zd_MO_drawParts_60 rfl 2 rfl ?_
    refine vv_callS (As := [.int (iI i), .int (iI b)]) (rest := [.ref tha]) (wr := [ceO 7 mo [.int (iI th), .int (iI n), .int (iI ac), .ref tha, .int (iI (bZ gk)), .ref rea, .ref poa, .int (iI mn), .ref cha, .ref goa, .ref lea, .int (iI nv), .int (iI mm), .ref fia, .ref sea, .int (iI (bZ ck)), .ref sta, .ref lda, .ref vla, .int (iI (bZ gd)), .int (iI fl), .ref dia, .ref qua], ceZ G tha 25600 (fz B), ceI G poa 160 Nb, ceZ G goa 25600 (fz D), ceI G lea 160 Ls]) F (cn_MO_cell l G i b) zm_MO_cell zw_844 zw_843 zd_MO_drawParts_61 ⟨by decide, by decide⟩ ⟨by decide, by decide⟩ [] [0, 1, 2, 3, 4] rfl rfl ⟨rfl, rfl, by decide⟩ rfl rfl (Nat.le_of_ble_eq_true rfl) (vv_then (ws' := [ceO 7 mo [.int (iI th), .int (iI n), .int (iI ac), .ref tha, .int (iI (bZ gk)), .ref rea, .ref poa, .int (iI mn), .ref cha, .ref goa, .ref lea, .int (iI nv), .int (iI mm), .ref fia, .ref sea, .int (iI (bZ ck)), .ref sta, .ref lda, .ref vla, .int (iI (bZ gd)), .int (iI fl), .ref dia, .ref qua], ceZ G tha 25600 (fz B), ceI G poa 160 Nb, ceZ G goa 25600 (fz D), ceI G lea 160 Ls]) (st' := [.int (iI (160 * i + b)), .ref tha]) [0, 1, 2, 3, 4] rfl rfl rfl ?_)
    refine vv_zald F zd_MO_drawParts_64 1 rfl ⟨by omega, by omega⟩ (by decide) ?_
    refine vv_ti (congrArg bZ (fzI (B := B) (u := i) (v := b) (by omega) ⟨by omega, by omega⟩)) ?_
    refine vv_if_eq (tgt := 104) F zd_MO_drawParts_65 rfl (bZ_rg _) (fun h1 => ?_) (fun h1 => ?_)
    · have h1 : (B i.toNat b.toNat) = false := (bZ_0 _).mp h1
      refine vv_iinc (j := 2) (lv' := [(0, .ref mo), (1, .int (iI i)), (2, .int (iI (b + 1)))]) F zd_MO_drawParts_104 rfl (by decide) [1, 2, 0] rfl ?_
      refine vv_goto (tgt := 47) F zd_MO_drawParts_107 rfl ?_
      exact ih (b + 1) D (by omega) (⟨by omega, drG_congr hI.2 (fun x y hxy hne => by
      constructor
      · rintro (w | ⟨w1, w2⟩)
        · exact Or.inl w
        · exact Or.inr ⟨w1, by omega⟩
      · rintro (w | ⟨w1, w2⟩)
        · exact Or.inl w
        · refine Or.inr ⟨w1, ?_⟩
          by_cases z : y = b.toNat
          · exfalso; subst w1; subst z; rw [h1] at hxy; cases hxy
          · omega)⟩)
    · have h1 : (B i.toNat b.toNat) = true := by cases hb9 : (B i.toNat b.toNat) with | true => rfl | false => exact absurd ((bZ_0 _).mpr hb9) h1
      refine vv_aload_n F zd_MO_drawParts_68 rfl 0 rfl ?_
      refine vv_get F zd_MO_drawParts_69 zf_MO 0 rfl rfl 6 (by decide) zw_762 rfl ?_
      refine vv_iload_n F zd_MO_drawParts_72 rfl 1 rfl ?_
      refine vv_iald F zd_MO_drawParts_73 2 rfl ⟨by omega, by omega⟩ (by decide) ?_
      refine vv_aload_n F zd_MO_drawParts_74 rfl 0 rfl ?_
      refine vv_get F zd_MO_drawParts_75 zf_MO 0 rfl rfl 6 (by decide) zw_762 rfl ?_
      refine vv_iload_n F zd_MO_drawParts_78 rfl 2 rfl ?_
      refine vv_iald F zd_MO_drawParts_79 2 rfl ⟨by omega, by omega⟩ (by decide) ?_
      refine vv_icmp_eq (tgt := 104) F zd_MO_drawParts_80 rfl (by first | exact ⟨by omega, by omega⟩) (by first | exact ⟨by omega, by omega⟩) (fun h2 => ?_) (fun h2 => ?_)
      · refine vv_iinc (j := 2) (lv' := [(0, .ref mo), (1, .int (iI i)), (2, .int (iI (b + 1)))]) F zd_MO_drawParts_104 rfl (by decide) [1, 2, 0] rfl ?_
        refine vv_goto (tgt := 47) F zd_MO_drawParts_107 rfl ?_
        exact ih (b + 1) D (by omega) (⟨by omega, drG_congr hI.2 (fun x y hxy hne => by
      constructor
      · rintro (w | ⟨w1, w2⟩)
        · exact Or.inl w
        · exact Or.inr ⟨w1, by omega⟩
      · rintro (w | ⟨w1, w2⟩)
        · exact Or.inl w
        · refine Or.inr ⟨w1, ?_⟩
          by_cases z : y = b.toNat
          · exfalso; subst w1; subst z; exact hne h2
          · omega)⟩)
      · refine vv_aload_n F zd_MO_drawParts_83 rfl 0 rfl ?_
        refine vv_get F zd_MO_drawParts_84 zf_MO 0 rfl rfl 9 (by decide) zw_765 rfl ?_
        refine vv_aload_n F zd_MO_drawParts_87 rfl 0 rfl ?_
        refine vv_get F zd_MO_drawParts_88 zf_MO 0 rfl rfl 6 (by decide) zw_762 rfl ?_
        refine vv_iload_n F zd_MO_drawParts_91 rfl 1 rfl ?_
        refine vv_iald F zd_MO_drawParts_92 2 rfl ⟨by omega, by omega⟩ (by decide) ?_
        refine vv_aload_n F zd_MO_drawParts_93 rfl 0 rfl ?_
        refine vv_get F zd_MO_drawParts_94 zf_MO 0 rfl rfl 6 (by decide) zw_762 rfl ?_
        refine vv_iload_n F zd_MO_drawParts_97 rfl 2 rfl ?_
        refine vv_iald F zd_MO_drawParts_98 2 rfl ⟨by omega, by omega⟩ (by decide) ?_
        refine vv_callS (As := [.int (iI (Nb i.toNat)), .int (iI (Nb b.toNat))]) (rest := [.ref goa]) (wr := [ceO 7 mo [.int (iI th), .int (iI n), .int (iI ac), .ref tha, .int (iI (bZ gk)), .ref rea, .ref poa, .int (iI mn), .ref cha, .ref goa, .ref lea, .int (iI nv), .int (iI mm), .ref fia, .ref sea, .int (iI (bZ ck)), .ref sta, .ref lda, .ref vla, .int (iI (bZ gd)), .int (iI fl), .ref dia, .ref qua], ceZ G tha 25600 (fz B), ceI G poa 160 Nb, ceZ G goa 25600 (fz D), ceI G lea 160 Ls]) F (cn_MO_cell l G (Nb i.toNat) (Nb b.toNat)) zm_MO_cell zw_844 zw_843 zd_MO_drawParts_99 ⟨by decide, by decide⟩ ⟨by decide, by decide⟩ [] [0, 1, 2, 3, 4] rfl rfl ⟨rfl, rfl, by decide⟩ rfl rfl (Nat.le_of_ble_eq_true rfl) (vv_then (ws' := [ceO 7 mo [.int (iI th), .int (iI n), .int (iI ac), .ref tha, .int (iI (bZ gk)), .ref rea, .ref poa, .int (iI mn), .ref cha, .ref goa, .ref lea, .int (iI nv), .int (iI mm), .ref fia, .ref sea, .int (iI (bZ ck)), .ref sta, .ref lda, .ref vla, .int (iI (bZ gd)), .int (iI fl), .ref dia, .ref qua], ceZ G tha 25600 (fz B), ceI G poa 160 Nb, ceZ G goa 25600 (fz D), ceI G lea 160 Ls]) (st' := [.int (iI (160 * (Nb i.toNat) + (Nb b.toNat))), .ref goa]) [0, 1, 2, 3, 4] rfl rfl rfl ?_)
        refine vv_iconst F zd_MO_drawParts_102 ?_
        refine vv_ti (show (1 : Int) = bZ true from rfl) ?_
        refine vv_zast (x := true) (ws' := [ceO 7 mo [.int (iI th), .int (iI n), .int (iI ac), .ref tha, .int (iI (bZ gk)), .ref rea, .ref poa, .int (iI mn), .ref cha, .ref goa, .ref lea, .int (iI nv), .int (iI mm), .ref fia, .ref sea, .int (iI (bZ ck)), .ref sta, .ref lda, .ref vla, .int (iI (bZ gd)), .int (iI fl), .ref dia, .ref qua], ceZ G tha 25600 (fz B), ceI G poa 160 Nb, ceZ G goa 25600 (fz (bP D (Nb i.toNat).toNat (Nb b.toNat).toNat true)), ceI G lea 160 Ls]) F zd_MO_drawParts_103 3 rfl ⟨by omega, by omega⟩ (by decide) (by rw [fzU (by omega) ⟨by omega, by omega⟩]; first | done | rfl) ?_
        refine vv_iinc (j := 2) (lv' := [(0, .ref mo), (1, .int (iI i)), (2, .int (iI (b + 1)))]) F zd_MO_drawParts_104 rfl (by decide) [1, 2, 0] rfl ?_
        refine vv_goto (tgt := 47) F zd_MO_drawParts_107 rfl ?_
        exact ih (b + 1) (bP D (Nb i.toNat).toNat (Nb b.toNat).toNat true) (by omega) (⟨by omega, drG_congr (drG_put hI.2 h1 h2 (by omega) (by omega)) (fun x y hxy hne => by
      constructor
      · rintro ((w | ⟨w1, w2⟩) | ⟨w1, w2⟩)
        · exact Or.inl w
        · exact Or.inr ⟨w1, by omega⟩
        · exact Or.inr ⟨w1, by omega⟩
      · rintro (w | ⟨w1, w2⟩)
        · exact Or.inl (Or.inl w)
        · by_cases z : y = b.toNat
          · exact Or.inr ⟨w1, z⟩
          · exact Or.inl (Or.inr ⟨w1, by omega⟩))⟩)

set_option maxHeartbeats 4000000 in
set_option maxRecDepth 100000 in
theorem lp_MO_d2 {p : Program} {l : Launch} {e : Env} {s : State} {m : MethodId} {args : Array Value} {below : List Frame} {meth : Method} {c : Code} {A : Nat → Prop} {Q : State → Prop} {G : vv_G} (F : vv_F p s m args meth c zc_MO_drawParts "ClauseGraphModel" "drawParts" none G A 3) (mo : Nat) (th : Int) (n : Int) (ac : Int) (tha : Nat) (gk : Bool) (rea : Nat) (poa : Nat) (mn : Int) (cha : Nat) (goa : Nat) (lea : Nat) (nv : Int) (mm : Int) (fia : Nat) (sea : Nat) (ck : Bool) (sta : Nat) (lda : Nat) (vla : Nat) (gd : Bool) (fl : Int) (dia : Nat) (qua : Nat) (B : Nat → Nat → Bool) (Nb : Nat → Int) (hn : 1 ≤ n ∧ n ≤ 160) (hB : ∀ x y, B x y = true → x < n.toNat ∧ y < n.toNat) (hN : ∀ a, a < n.toNat → 0 ≤ Nb a ∧ Nb a < 160)
    (k : ∀ (Ls : Nat → Int) (D : Nat → Nat → Bool), ((-1 : Int) < n ∧ drL n.toNat Nb (-1 : Int) Ls ∧ drG B Nb (fun x _ => (-1 : Int) < (x : Int)) D) → vv_V p l e { frames := 1, cells := 0, slots := 0, locals := 21 } s m args below meth c G A 3 Q 116 [(0, .ref mo), (1, .int (iI (-1 : Int)))] [] [ceO 7 mo [.int (iI th), .int (iI n), .int (iI ac), .ref tha, .int (iI (bZ gk)), .ref rea, .ref poa, .int (iI mn), .ref cha, .ref goa, .ref lea, .int (iI nv), .int (iI mm), .ref fia, .ref sea, .int (iI (bZ ck)), .ref sta, .ref lda, .ref vla, .int (iI (bZ gd)), .int (iI fl), .ref dia, .ref qua], ceZ G tha 25600 (fz B), ceI G poa 160 Nb, ceZ G goa 25600 (fz D), ceI G lea 160 Ls] 0 0)  :
    ∀ (d : Nat) (i : Int) (Ls : Nat → Int) (D : Nat → Nat → Bool), i = (-1 : Int) + (d : Int) → (i < n ∧ drL n.toNat Nb i Ls ∧ drG B Nb (fun x _ => i < (x : Int)) D) → vv_V p l e { frames := 1, cells := 0, slots := 0, locals := 21 } s m args below meth c G A 3 Q 29 [(0, .ref mo), (1, .int (iI i))] [] [ceO 7 mo [.int (iI th), .int (iI n), .int (iI ac), .ref tha, .int (iI (bZ gk)), .ref rea, .ref poa, .int (iI mn), .ref cha, .ref goa, .ref lea, .int (iI nv), .int (iI mm), .ref fia, .ref sea, .int (iI (bZ ck)), .ref sta, .ref lda, .ref vla, .int (iI (bZ gd)), .int (iI fl), .ref dia, .ref qua], ceZ G tha 25600 (fz B), ceI G poa 160 Nb, ceZ G goa 25600 (fz D), ceI G lea 160 Ls] 0 0 := by
  intro d
  induction d with
  | zero =>
    intro i Ls D hd hI
    have hz : i = (-1 : Int) := by omega
    subst hz
    refine vv_iload_n F zd_MO_drawParts_29 rfl 1 rfl ?_
    refine vv_if_lt (tgt := 116) F zd_MO_drawParts_30 rfl (by first | exact ⟨by omega, by omega⟩) (fun _ => ?_) (fun h9 => absurd h9 (by omega))
    exact k Ls D hI
  | succ d ih =>
    intro i Ls D hd hI
    have n1 := hN i.toNat (by omega)
    refine vv_iload_n F zd_MO_drawParts_29 rfl 1 rfl ?_
    refine vv_if_lt (tgt := 116) F zd_MO_drawParts_30 rfl (by first | exact ⟨by omega, by omega⟩) (fun h9 => absurd h9 (by omega)) (fun _ => ?_)
    refine vv_aload_n F zd_MO_drawParts_33 rfl 0 rfl ?_
    refine vv_get F zd_MO_drawParts_34 zf_MO 0 rfl rfl 10 (by decide) zw_766 rfl ?_
    refine vv_aload_n F zd_MO_drawParts_37 rfl 0 rfl ?_
    refine vv_get F zd_MO_drawParts_38 zf_MO 0 rfl rfl 6 (by decide) zw_762 rfl ?_
    refine vv_iload_n F zd_MO_drawParts_41 rfl 1 rfl ?_
    refine vv_iald F zd_MO_drawParts_42 2 rfl ⟨by omega, by omega⟩ (by decide) ?_
    refine vv_iload_n F zd_MO_drawParts_43 rfl 1 rfl ?_
    refine vv_iast (x := i) (ws' := [ceO 7 mo [.int (iI th), .int (iI n), .int (iI ac), .ref tha, .int (iI (bZ gk)), .ref rea, .ref poa, .int (iI mn), .ref cha, .ref goa, .ref lea, .int (iI nv), .int (iI mm), .ref fia, .ref sea, .int (iI (bZ ck)), .ref sta, .ref lda, .ref vla, .int (iI (bZ gd)), .int (iI fl), .ref dia, .ref qua], ceZ G tha 25600 (fz B), ceI G poa 160 Nb, ceZ G goa 25600 (fz D), ceI G lea 160 (va_up Ls (Nb i.toNat).toNat i)]) F zd_MO_drawParts_44 4 rfl ⟨by omega, by omega⟩ (by decide) rfl ?_
    refine vv_iconst F zd_MO_drawParts_45 ?_
    refine vv_istore_n (lv' := [(0, .ref mo), (1, .int (iI i)), (2, .int (iI 0))]) F zd_MO_drawParts_46 rfl (by decide) [1, 2, 0] rfl ?_
    refine lp_MO_d1 F mo th n ac tha gk rea poa mn cha goa lea nv mm fia sea ck sta lda vla gd fl dia qua B Nb (va_up Ls (Nb i.toNat).toNat i) i hn hB hN ⟨by omega, by omega⟩ (fun D9 hJ => ?_) n.toNat 0 D (by omega) ⟨by omega, drG_congr hI.2.2 (fun x y _ _ => ⟨Or.inl, fun w => by rcases w with w | ⟨-, w⟩; exact w; omega⟩)⟩
    refine vv_iinc (j := 1) (lv' := [(0, .ref mo), (1, .int (iI (i + (-1)))), (2, .int (iI n))]) F zd_MO_drawParts_110 rfl (by decide) [1, 0, 2] rfl ?_
    refine vv_goto (tgt := 29) F zd_MO_drawParts_113 rfl ?_
    refine vv_locals (lv' := [(0, .ref mo), (1, .int (iI (i + (-1))))]) [0, 1] rfl ?_
    exact ih (i - 1) (va_up Ls (Nb i.toNat).toNat i) D9 (by omega) (⟨by omega, drL_step hI.2.1 (by omega) (by omega) (fun a ha => (hN a ha).1), drG_congr hJ.2 (fun x y hxy _ => by
      have := (hB x y hxy).2
      constructor
      · rintro (w | ⟨w1, w2⟩) <;> omega
      · intro w
        by_cases z : x = i.toNat
        · exact Or.inr ⟨z, by omega⟩
        · exact Or.inl (by omega))⟩)

set_option maxHeartbeats 4000000 in
set_option maxRecDepth 100000 in
theorem cn_MO_drawParts (l : Launch) (G : vv_G) (mo : Nat) (th : Int) (n : Int) (ac : Int) (tha : Nat) (gk : Bool) (rea : Nat) (poa : Nat) (mn : Int) (cha : Nat) (goa : Nat) (lea : Nat) (nv : Int) (mm : Int) (fia : Nat) (sea : Nat) (ck : Bool) (sta : Nat) (lda : Nat) (vla : Nat) (gd : Bool) (fl : Int) (dia : Nat) (qua : Nat) (B : Nat → Nat → Bool) (Nb : Nat → Int) (Ls : Nat → Int) (D : Nat → Nat → Bool) (hn : 1 ≤ n ∧ n ≤ 160) (hB : ∀ x y, B x y = true → x < n.toNat ∧ y < n.toNat) (hN : ∀ a, a < n.toNat → 0 ≤ Nb a ∧ Nb a < 160) :
    vv_C l zy_MO_drawParts zc_MO_drawParts 3 none { frames := 1, cells := 0, slots := 0, locals := 21 } G [.ref mo] [ceO 7 mo [.int (iI th), .int (iI n), .int (iI ac), .ref tha, .int (iI (bZ gk)), .ref rea, .ref poa, .int (iI mn), .ref cha, .ref goa, .ref lea, .int (iI nv), .int (iI mm), .ref fia, .ref sea, .int (iI (bZ ck)), .ref sta, .ref lda, .ref vla, .int (iI (bZ gd)), .int (iI fl), .ref dia, .ref qua], ceZ G tha 25600 (fz B), ceI G poa 160 Nb, ceZ G goa 25600 (fz D), ceI G lea 160 Ls] (fun v7 w7 => ∃ (D2 : Nat → Nat → Bool) (Ls2 : Nat → Int), (drL n.toNat Nb (-1) Ls2) ∧ (drG B Nb (fun _ _ => True) D2) ∧ v7 = none ∧ w7 = [ceO 7 mo [.int (iI th), .int (iI n), .int (iI ac), .ref tha, .int (iI (bZ gk)), .ref rea, .ref poa, .int (iI mn), .ref cha, .ref goa, .ref lea, .int (iI nv), .int (iI mm), .ref fia, .ref sea, .int (iI (bZ ck)), .ref sta, .ref lda, .ref vla, .int (iI (bZ gd)), .int (iI fl), .ref dia, .ref qua], ceZ G tha 25600 (fz B), ceI G poa 160 Nb, ceZ G goa 25600 (fz D2), ceI G lea 160 Ls2]) := by
  refine vv_met (by decide +kernel) (Nat.le_of_ble_eq_true rfl) rfl ?_
  intro p e s m args below meth c A F
  refine vv_iconst F zd_MO_drawParts_0 ?_
  refine vv_istore_n (lv' := [(0, .ref mo), (1, .int (iI 0))]) F zd_MO_drawParts_1 rfl (by decide) [1, 0] rfl ?_
  refine lp_MO_d0 F mo th n ac tha gk rea poa mn cha goa lea nv mm fia sea ck sta lda vla gd fl dia qua B Nb Ls (fun b hI => ?_) 25600 0 (fz D) (by omega) ⟨by omega, fun j hj => by omega⟩
  refine vv_conZ (f := b) (g := fz (fun _ _ => false)) (ws' := [ceO 7 mo [.int (iI th), .int (iI n), .int (iI ac), .ref tha, .int (iI (bZ gk)), .ref rea, .ref poa, .int (iI mn), .ref cha, .ref goa, .ref lea, .int (iI nv), .int (iI mm), .ref fia, .ref sea, .int (iI (bZ ck)), .ref sta, .ref lda, .ref vla, .int (iI (bZ gd)), .int (iI fl), .ref dia, .ref qua], ceZ G tha 25600 (fz B), ceI G poa 160 Nb, ceZ G goa 25600 (fz (fun _ _ => false)), ceI G lea 160 Ls]) 3 rfl (fun j hj => hI.2 j (by omega)) rfl ?_
  refine vv_aload_n F zd_MO_drawParts_22 rfl 0 rfl ?_
  refine vv_get F zd_MO_drawParts_23 zf_MO 0 rfl rfl 1 (by decide) zw_757 rfl ?_
  refine vv_iconst F zd_MO_drawParts_26 ?_
  refine vv_isub F zd_MO_drawParts_27 ?_
  refine vv_istore_n (lv' := [(0, .ref mo), (1, .int (iI (n - 1)))]) F zd_MO_drawParts_28 rfl (by decide) [1, 0] rfl ?_
  refine lp_MO_d2 F mo th n ac tha gk rea poa mn cha goa lea nv mm fia sea ck sta lda vla gd fl dia qua B Nb hn hB hN (fun Ls9 D9 hI => ?_) n.toNat (n - 1) Ls (fun _ _ => false) (by omega) ⟨by omega, fun a h1 h2 => by omega, drG_0 (fun x y hxy => by have := (hB x y hxy).1; omega)⟩
  exact vv_vret F zd_MO_drawParts_116 ⟨D9, Ls9, hI.2.1, drG_congr hI.2.2 (fun x y _ _ => ⟨fun _ => trivial, fun _ => by omega⟩), rfl, rfl⟩

/-- what the reference knows of its graph -/
def mK (B : Nat → Nat → Bool) (n : Nat) (H : Nat → Nat → Bool) (Nb Ls : Nat → Int) (mn : Int) (D : Nat → Nat → Bool) (C : Nat → Int) : Prop :=
  cl B n (rsN n H) (fun x y => rsN n H y x) ∧ numC n (rsN n H) Nb Ls mn ∧ drG B Nb (fun _ _ => True) D ∧ chm D mn 0 C

set_option maxHeartbeats 4000000 in
set_option maxRecDepth 100000 in
theorem lp_MO_k1 {p : Program} {l : Launch} {e : Env} {s : State} {m : MethodId} {args : Array Value} {below : List Frame} {meth : Method} {c : Code} {A : Nat → Prop} {Q : State → Prop} {G : vv_G} (F : vv_F p s m args meth c zc_MO_know "ClauseGraphModel" "know" none G A 3) (mo : Nat) (th : Int) (n : Int) (ac : Int) (tha : Nat) (gk : Bool) (rea : Nat) (poa : Nat) (mn : Int) (cha : Nat) (goa : Nat) (lea : Nat) (nv : Int) (mm : Int) (fia : Nat) (sea : Nat) (ck : Bool) (sta : Nat) (lda : Nat) (vla : Nat) (gd : Bool) (fl : Int) (dia : Nat) (qua : Nat) (B : Nat → Nat → Bool) (Nb : Nat → Int) (C : Nat → Int) (D : Nat → Nat → Bool) (Ls : Nat → Int) (i : Int) (hn : 1 ≤ n ∧ n ≤ 160) (hB : ∀ x y, B x y = true → x < n.toNat ∧ y < n.toNat) (hi : 0 ≤ i ∧ i < n)
    (k : ∀ (H : Nat → Nat → Bool), (0 ≤ n ∧ (∀ x y : Nat, (x : Int) < i → (y : Int) < n → H x y = (decide (x = y) || B x y)) ∧ (∀ y : Nat, (y : Int) < n → H i.toNat y = (decide (i.toNat = y) || B i.toNat y))) → vv_V p l e { frames := 4, cells := 0, slots := 0, locals := 88 } s m args below meth c G A 3 Q 72 [(0, .ref mo), (1, .int (iI i)), (2, .int (iI n))] [] [ceO 7 mo [.int (iI th), .int (iI n), .int (iI ac), .ref tha, .int (iI (bZ gk)), .ref rea, .ref poa, .int (iI mn), .ref cha, .ref goa, .ref lea, .int (iI nv), .int (iI mm), .ref fia, .ref sea, .int (iI (bZ ck)), .ref sta, .ref lda, .ref vla, .int (iI (bZ gd)), .int (iI fl), .ref dia, .ref qua], ceZ G tha 25600 (fz B), ceZ G rea 25600 (fz H), ceI G poa 160 Nb, ceI G cha 160 C, ceZ G goa 25600 (fz D), ceI G lea 160 Ls] 0 0)  :
    ∀ (d : Nat) (j : Int) (H : Nat → Nat → Bool), j + (d : Int) = n → (0 ≤ j ∧ (∀ x y : Nat, (x : Int) < i → (y : Int) < n → H x y = (decide (x = y) || B x y)) ∧ (∀ y : Nat, (y : Int) < j → H i.toNat y = (decide (i.toNat = y) || B i.toNat y))) → vv_V p l e { frames := 4, cells := 0, slots := 0, locals := 88 } s m args below meth c G A 3 Q 25 [(0, .ref mo), (1, .int (iI i)), (2, .int (iI j))] [] [ceO 7 mo [.int (iI th), .int (iI n), .int (iI ac), .ref tha, .int (iI (bZ gk)), .ref rea, .ref poa, .int (iI mn), .ref cha, .ref goa, .ref lea, .int (iI nv), .int (iI mm), .ref fia, .ref sea, .int (iI (bZ ck)), .ref sta, .ref lda, .ref vla, .int (iI (bZ gd)), .int (iI fl), .ref dia, .ref qua], ceZ G tha 25600 (fz B), ceZ G rea 25600 (fz H), ceI G poa 160 Nb, ceI G cha 160 C, ceZ G goa 25600 (fz D), ceI G lea 160 Ls] 0 0 := by
  intro d
  induction d with
  | zero =>
    intro j H hd hI
    have hz : j = n := by omega
    subst hz
    refine vv_iload_n F zd_MO_know_25 rfl 2 rfl ?_
    refine vv_aload_n F zd_MO_know_26 rfl 0 rfl ?_
    refine vv_get F zd_MO_know_27 zf_MO 0 rfl rfl 1 (by decide) zw_757 rfl ?_
    refine vv_icmp_ge (tgt := 72) F zd_MO_know_30 rfl (by first | exact ⟨by omega, by omega⟩) (by first | exact ⟨by omega, by omega⟩) (fun _ => ?_) (fun h9 => absurd h9 (by omega))
    exact k H hI
  | succ d ih =>
    intro j H hd hI
    refine vv_iload_n F zd_MO_know_25 rfl 2 rfl ?_
    refine vv_aload_n F zd_MO_know_26 rfl 0 rfl ?_
    refine vv_get F zd_MO_know_27 zf_MO 0 rfl rfl 1 (by decide) zw_757 rfl ?_
    refine vv_icmp_ge (tgt := 72) F zd_MO_know_30 rfl (by first | exact ⟨by omega, by omega⟩) (by first | exact ⟨by omega, by omega⟩) (fun h9 => absurd h9 (by omega)) (fun _ => ?_)
    refine vv_aload_n F zd_MO_know_33 rfl 0 rfl ?_
    refine vv_get F zd_MO_know_34 zf_MO 0 rfl rfl 5 (by decide) zw_761 rfl ?_
    refine vv_iload_n F zd_MO_know_37 rfl 1 rfl ?_
    refine vv_iload_n F zd_MO_know_38 rfl 2 rfl ?_
    refine vv_callS (As := [.int (iI i), .int (iI j)]) (rest := [.ref rea]) (wr := [ceO 7 mo [.int (iI th), .int (iI n), .int (iI ac), .ref tha, .int (iI (bZ gk)), .ref rea, .ref poa, .int (iI mn), .ref cha, .ref goa, .ref lea, .int (iI nv), .int (iI mm), .ref fia, .ref sea, .int (iI (bZ ck)), .ref sta, .ref lda, .ref vla, .int (iI (bZ gd)), .int (iI fl), .ref dia, .ref qua], ceZ G tha 25600 (fz B), ceZ G rea 25600 (fz H), ceI G poa 160 Nb, ceI G cha 160 C, ceZ G goa 25600 (fz D), ceI G lea 160 Ls]) F (cn_MO_cell l G i j) zm_MO_cell zw_844 zw_843 zd_MO_know_39 ⟨by decide, by decide⟩ ⟨by decide, by decide⟩ [] [0, 1, 2, 3, 4, 5, 6] rfl rfl ⟨rfl, rfl, by decide⟩ rfl rfl (Nat.le_of_ble_eq_true rfl) (vv_then (ws' := [ceO 7 mo [.int (iI th), .int (iI n), .int (iI ac), .ref tha, .int (iI (bZ gk)), .ref rea, .ref poa, .int (iI mn), .ref cha, .ref goa, .ref lea, .int (iI nv), .int (iI mm), .ref fia, .ref sea, .int (iI (bZ ck)), .ref sta, .ref lda, .ref vla, .int (iI (bZ gd)), .int (iI fl), .ref dia, .ref qua], ceZ G tha 25600 (fz B), ceZ G rea 25600 (fz H), ceI G poa 160 Nb, ceI G cha 160 C, ceZ G goa 25600 (fz D), ceI G lea 160 Ls]) (st' := [.int (iI (160 * i + j)), .ref rea]) [0, 1, 2, 3, 4, 5, 6] rfl rfl rfl ?_)
    refine vv_iload_n F zd_MO_know_42 rfl 1 rfl ?_
    refine vv_iload_n F zd_MO_know_43 rfl 2 rfl ?_
    refine vv_icmp_eq (tgt := 60) F zd_MO_know_44 rfl (by first | exact ⟨by omega, by omega⟩) (by first | exact ⟨by omega, by omega⟩) (fun h1 => ?_) (fun h1 => ?_)
    · refine vv_iconst F zd_MO_know_60 ?_
      refine vv_goto (tgt := 65) F zd_MO_know_61 rfl ?_
      refine vv_ti (show (1 : Int) = bZ true from rfl) ?_
      refine vv_zast (x := true) (ws' := [ceO 7 mo [.int (iI th), .int (iI n), .int (iI ac), .ref tha, .int (iI (bZ gk)), .ref rea, .ref poa, .int (iI mn), .ref cha, .ref goa, .ref lea, .int (iI nv), .int (iI mm), .ref fia, .ref sea, .int (iI (bZ ck)), .ref sta, .ref lda, .ref vla, .int (iI (bZ gd)), .int (iI fl), .ref dia, .ref qua], ceZ G tha 25600 (fz B), ceZ G rea 25600 (fz (bP H i.toNat j.toNat true)), ceI G poa 160 Nb, ceI G cha 160 C, ceZ G goa 25600 (fz D), ceI G lea 160 Ls]) F zd_MO_know_65 2 rfl ⟨by omega, by omega⟩ (by decide) (by rw [fzU (by omega) ⟨by omega, by omega⟩]; first | done | rfl) ?_
      refine vv_iinc (j := 2) (lv' := [(0, .ref mo), (1, .int (iI i)), (2, .int (iI (j + 1)))]) F zd_MO_know_66 rfl (by decide) [1, 2, 0] rfl ?_
      refine vv_goto (tgt := 25) F zd_MO_know_69 rfl ?_
      exact ih (j + 1) (bP H i.toNat j.toNat true) (by omega) (⟨by omega, fun x y hx hy => by
      rw [← hI.2.1 x y hx hy]; unfold bP; rw [if_neg (by omega)], fun y hy => by
      unfold bP
      by_cases z : y = j.toNat
      · rw [if_pos ⟨rfl, z⟩, z]; rw [decide_eq_true (by omega), Bool.true_or]
      · rw [if_neg (fun w => z w.2)]; exact hI.2.2 y (by omega)⟩)
    · refine vv_aload_n F zd_MO_know_47 rfl 0 rfl ?_
      refine vv_get F zd_MO_know_48 zf_MO 0 rfl rfl 3 (by decide) zw_759 rfl ?_
      refine vv_iload_n F zd_MO_know_51 rfl 1 rfl ?_
      refine vv_iload_n F zd_MO_know_52 rfl 2 rfl ?_
      refine vv_callS (As := [.int (iI i), .int (iI j)]) (rest := [.ref tha, .int (iI (160 * i + j)), .ref rea]) (wr := [ceO 7 mo [.int (iI th), .int (iI n), .int (iI ac), .ref tha, .int (iI (bZ gk)), .ref rea, .ref poa, .int (iI mn), .ref cha, .ref goa, .ref lea, .int (iI nv), .int (iI mm), .ref fia, .ref sea, .int (iI (bZ ck)), .ref sta, .ref lda, .ref vla, .int (iI (bZ gd)), .int (iI fl), .ref dia, .ref qua], ceZ G tha 25600 (fz B), ceZ G rea 25600 (fz H), ceI G poa 160 Nb, ceI G cha 160 C, ceZ G goa 25600 (fz D), ceI G lea 160 Ls]) F (cn_MO_cell l G i j) zm_MO_cell zw_844 zw_843 zd_MO_know_53 ⟨by decide, by decide⟩ ⟨by decide, by decide⟩ [] [0, 1, 2, 3, 4, 5, 6] rfl rfl ⟨rfl, rfl, by decide⟩ rfl rfl (Nat.le_of_ble_eq_true rfl) (vv_then (ws' := [ceO 7 mo [.int (iI th), .int (iI n), .int (iI ac), .ref tha, .int (iI (bZ gk)), .ref rea, .ref poa, .int (iI mn), .ref cha, .ref goa, .ref lea, .int (iI nv), .int (iI mm), .ref fia, .ref sea, .int (iI (bZ ck)), .ref sta, .ref lda, .ref vla, .int (iI (bZ gd)), .int (iI fl), .ref dia, .ref qua], ceZ G tha 25600 (fz B), ceZ G rea 25600 (fz H), ceI G poa 160 Nb, ceI G cha 160 C, ceZ G goa 25600 (fz D), ceI G lea 160 Ls]) (st' := [.int (iI (160 * i + j)), .ref tha, .int (iI (160 * i + j)), .ref rea]) [0, 1, 2, 3, 4, 5, 6] rfl rfl rfl ?_)
      refine vv_zald F zd_MO_know_56 1 rfl ⟨by omega, by omega⟩ (by decide) ?_
      refine vv_ti (congrArg bZ (fzI (B := B) (u := i) (v := j) (by omega) ⟨by omega, by omega⟩)) ?_
      refine vv_if_eq (tgt := 64) F zd_MO_know_57 rfl (bZ_rg _) (fun h2 => ?_) (fun h2 => ?_)
      · have h2 : (B i.toNat j.toNat) = false := (bZ_0 _).mp h2
        refine vv_iconst F zd_MO_know_64 ?_
        refine vv_ti (show (0 : Int) = bZ false from rfl) ?_
        refine vv_zast (x := false) (ws' := [ceO 7 mo [.int (iI th), .int (iI n), .int (iI ac), .ref tha, .int (iI (bZ gk)), .ref rea, .ref poa, .int (iI mn), .ref cha, .ref goa, .ref lea, .int (iI nv), .int (iI mm), .ref fia, .ref sea, .int (iI (bZ ck)), .ref sta, .ref lda, .ref vla, .int (iI (bZ gd)), .int (iI fl), .ref dia, .ref qua], ceZ G tha 25600 (fz B), ceZ G rea 25600 (fz (bP H i.toNat j.toNat false)), ceI G poa 160 Nb, ceI G cha 160 C, ceZ G goa 25600 (fz D), ceI G lea 160 Ls]) F zd_MO_know_65 2 rfl ⟨by omega, by omega⟩ (by decide) (by rw [fzU (by omega) ⟨by omega, by omega⟩]; first | done | rfl) ?_
        refine vv_iinc (j := 2) (lv' := [(0, .ref mo), (1, .int (iI i)), (2, .int (iI (j + 1)))]) F zd_MO_know_66 rfl (by decide) [1, 2, 0] rfl ?_
        refine vv_goto (tgt := 25) F zd_MO_know_69 rfl ?_
        exact ih (j + 1) (bP H i.toNat j.toNat false) (by omega) (⟨by omega, fun x y hx hy => by
      rw [← hI.2.1 x y hx hy]; unfold bP; rw [if_neg (by omega)], fun y hy => by
      unfold bP
      by_cases z : y = j.toNat
      · rw [if_pos ⟨rfl, z⟩, z]; rw [decide_eq_false (by omega), Bool.false_or, h2]
      · rw [if_neg (fun w => z w.2)]; exact hI.2.2 y (by omega)⟩)
      · have h2 : (B i.toNat j.toNat) = true := by cases hb9 : (B i.toNat j.toNat) with | true => rfl | false => exact absurd ((bZ_0 _).mpr hb9) h2
        refine vv_iconst F zd_MO_know_60 ?_
        refine vv_goto (tgt := 65) F zd_MO_know_61 rfl ?_
        refine vv_ti (show (1 : Int) = bZ true from rfl) ?_
        refine vv_zast (x := true) (ws' := [ceO 7 mo [.int (iI th), .int (iI n), .int (iI ac), .ref tha, .int (iI (bZ gk)), .ref rea, .ref poa, .int (iI mn), .ref cha, .ref goa, .ref lea, .int (iI nv), .int (iI mm), .ref fia, .ref sea, .int (iI (bZ ck)), .ref sta, .ref lda, .ref vla, .int (iI (bZ gd)), .int (iI fl), .ref dia, .ref qua], ceZ G tha 25600 (fz B), ceZ G rea 25600 (fz (bP H i.toNat j.toNat true)), ceI G poa 160 Nb, ceI G cha 160 C, ceZ G goa 25600 (fz D), ceI G lea 160 Ls]) F zd_MO_know_65 2 rfl ⟨by omega, by omega⟩ (by decide) (by rw [fzU (by omega) ⟨by omega, by omega⟩]; first | done | rfl) ?_
        refine vv_iinc (j := 2) (lv' := [(0, .ref mo), (1, .int (iI i)), (2, .int (iI (j + 1)))]) F zd_MO_know_66 rfl (by decide) [1, 2, 0] rfl ?_
        refine vv_goto (tgt := 25) F zd_MO_know_69 rfl ?_
        exact ih (j + 1) (bP H i.toNat j.toNat true) (by omega) (⟨by omega, fun x y hx hy => by
      rw [← hI.2.1 x y hx hy]; unfold bP; rw [if_neg (by omega)], fun y hy => by
      unfold bP
      by_cases z : y = j.toNat
      · rw [if_pos ⟨rfl, z⟩, z]; rw [decide_eq_false (by omega), Bool.false_or, h2]
      · rw [if_neg (fun w => z w.2)]; exact hI.2.2 y (by omega)⟩)

set_option maxHeartbeats 4000000 in
set_option maxRecDepth 100000 in
theorem lp_MO_k2 {p : Program} {l : Launch} {e : Env} {s : State} {m : MethodId} {args : Array Value} {below : List Frame} {meth : Method} {c : Code} {A : Nat → Prop} {Q : State → Prop} {G : vv_G} (F : vv_F p s m args meth c zc_MO_know "ClauseGraphModel" "know" none G A 3) (mo : Nat) (th : Int) (n : Int) (ac : Int) (tha : Nat) (gk : Bool) (rea : Nat) (poa : Nat) (mn : Int) (cha : Nat) (goa : Nat) (lea : Nat) (nv : Int) (mm : Int) (fia : Nat) (sea : Nat) (ck : Bool) (sta : Nat) (lda : Nat) (vla : Nat) (gd : Bool) (fl : Int) (dia : Nat) (qua : Nat) (B : Nat → Nat → Bool) (Nb : Nat → Int) (C : Nat → Int) (D : Nat → Nat → Bool) (Ls : Nat → Int) (hn : 1 ≤ n ∧ n ≤ 160) (hB : ∀ x y, B x y = true → x < n.toNat ∧ y < n.toNat)
    (k : ∀ (H : Nat → Nat → Bool), (0 ≤ n ∧ (∀ x y : Nat, (x : Int) < n → (y : Int) < n → H x y = (decide (x = y) || B x y))) → vv_V p l e { frames := 4, cells := 0, slots := 0, locals := 88 } s m args below meth c G A 3 Q 78 [(0, .ref mo), (1, .int (iI n))] [] [ceO 7 mo [.int (iI th), .int (iI n), .int (iI ac), .ref tha, .int (iI (bZ gk)), .ref rea, .ref poa, .int (iI mn), .ref cha, .ref goa, .ref lea, .int (iI nv), .int (iI mm), .ref fia, .ref sea, .int (iI (bZ ck)), .ref sta, .ref lda, .ref vla, .int (iI (bZ gd)), .int (iI fl), .ref dia, .ref qua], ceZ G tha 25600 (fz B), ceZ G rea 25600 (fz H), ceI G poa 160 Nb, ceI G cha 160 C, ceZ G goa 25600 (fz D), ceI G lea 160 Ls] 0 0)  :
    ∀ (d : Nat) (i : Int) (H : Nat → Nat → Bool), i + (d : Int) = n → (0 ≤ i ∧ (∀ x y : Nat, (x : Int) < i → (y : Int) < n → H x y = (decide (x = y) || B x y))) → vv_V p l e { frames := 4, cells := 0, slots := 0, locals := 88 } s m args below meth c G A 3 Q 15 [(0, .ref mo), (1, .int (iI i))] [] [ceO 7 mo [.int (iI th), .int (iI n), .int (iI ac), .ref tha, .int (iI (bZ gk)), .ref rea, .ref poa, .int (iI mn), .ref cha, .ref goa, .ref lea, .int (iI nv), .int (iI mm), .ref fia, .ref sea, .int (iI (bZ ck)), .ref sta, .ref lda, .ref vla, .int (iI (bZ gd)), .int (iI fl), .ref dia, .ref qua], ceZ G tha 25600 (fz B), ceZ G rea 25600 (fz H), ceI G poa 160 Nb, ceI G cha 160 C, ceZ G goa 25600 (fz D), ceI G lea 160 Ls] 0 0 := by
  intro d
  induction d with
  | zero =>
    intro i H hd hI
    have hz : i = n := by omega
    subst hz
    refine vv_iload_n F zd_MO_know_15 rfl 1 rfl ?_
    refine vv_aload_n F zd_MO_know_16 rfl 0 rfl ?_
    refine vv_get F zd_MO_know_17 zf_MO 0 rfl rfl 1 (by decide) zw_757 rfl ?_
    refine vv_icmp_ge (tgt := 78) F zd_MO_know_20 rfl (by first | exact ⟨by omega, by omega⟩) (by first | exact ⟨by omega, by omega⟩) (fun _ => ?_) (fun h9 => absurd h9 (by omega))
    exact k H hI
  | succ d ih =>
    intro i H hd hI
    refine vv_iload_n F zd_MO_know_15 rfl 1 rfl ?_
    refine vv_aload_n F zd_MO_know_16 rfl 0 rfl ?_
    refine vv_get F zd_MO_know_17 zf_MO 0 rfl rfl 1 (by decide) zw_757 rfl ?_
    refine vv_icmp_ge (tgt := 78) F zd_MO_know_20 rfl (by first | exact ⟨by omega, by omega⟩) (by first | exact ⟨by omega, by omega⟩) (fun h9 => absurd h9 (by omega)) (fun _ => ?_)
    refine vv_iconst F zd_MO_know_23 ?_
    refine vv_istore_n (lv' := [(0, .ref mo), (1, .int (iI i)), (2, .int (iI 0))]) F zd_MO_know_24 rfl (by decide) [1, 2, 0] rfl ?_
    refine lp_MO_k1 F mo th n ac tha gk rea poa mn cha goa lea nv mm fia sea ck sta lda vla gd fl dia qua B Nb C D Ls i hn hB ⟨by omega, by omega⟩ (fun H9 hJ => ?_) n.toNat 0 H (by omega) ⟨by omega, hI.2, fun y hy => by omega⟩
    refine vv_iinc (j := 1) (lv' := [(0, .ref mo), (1, .int (iI (i + 1))), (2, .int (iI n))]) F zd_MO_know_72 rfl (by decide) [1, 0, 2] rfl ?_
    refine vv_goto (tgt := 15) F zd_MO_know_75 rfl ?_
    refine vv_locals (lv' := [(0, .ref mo), (1, .int (iI (i + 1)))]) [0, 1] rfl ?_
    exact ih (i + 1) H9 (by omega) (⟨by omega, fun x y hx hy => by
      by_cases z : x = i.toNat
      · subst z; exact hJ.2.2 y hy
      · exact hJ.2.1 x y (by omega) hy⟩)

set_option maxHeartbeats 4000000 in
set_option maxRecDepth 100000 in
theorem lp_MO_k3 {p : Program} {l : Launch} {e : Env} {s : State} {m : MethodId} {args : Array Value} {below : List Frame} {meth : Method} {c : Code} {A : Nat → Prop} {Q : State → Prop} {G : vv_G} (F : vv_F p s m args meth c zc_MO_know "ClauseGraphModel" "know" none G A 3) (mo : Nat) (th : Int) (n : Int) (ac : Int) (tha : Nat) (gk : Bool) (rea : Nat) (poa : Nat) (mn : Int) (cha : Nat) (goa : Nat) (lea : Nat) (nv : Int) (mm : Int) (fia : Nat) (sea : Nat) (ck : Bool) (sta : Nat) (lda : Nat) (vla : Nat) (gd : Bool) (fl : Int) (dia : Nat) (qua : Nat) (B : Nat → Nat → Bool) (H : Nat → Nat → Bool) (Nb : Nat → Int) (D : Nat → Nat → Bool) (Ls : Nat → Int) (i : Int) (hm : 0 ≤ mn ∧ mn ≤ 160) (hi : 0 ≤ i ∧ i < mn)
    (k : ∀ (C : Nat → Int), (i < mn ∧ chm D mn ((i.toNat : Int) + 1) C ∧ chr D mn i.toNat mn C) → vv_V p l e { frames := 4, cells := 0, slots := 0, locals := 88 } s m args below meth c G A 3 Q 181 [(0, .ref mo), (1, .int (iI i)), (2, .int (iI mn))] [] [ceO 7 mo [.int (iI th), .int (iI n), .int (iI ac), .ref tha, .int (iI (bZ gk)), .ref rea, .ref poa, .int (iI mn), .ref cha, .ref goa, .ref lea, .int (iI nv), .int (iI mm), .ref fia, .ref sea, .int (iI (bZ ck)), .ref sta, .ref lda, .ref vla, .int (iI (bZ gd)), .int (iI fl), .ref dia, .ref qua], ceZ G tha 25600 (fz B), ceZ G rea 25600 (fz H), ceI G poa 160 Nb, ceI G cha 160 C, ceZ G goa 25600 (fz D), ceI G lea 160 Ls] 0 0)  :
    ∀ (d : Nat) (j : Int) (C : Nat → Int), j + (d : Int) = mn → (i < j ∧ chm D mn ((i.toNat : Int) + 1) C ∧ chr D mn i.toNat j C) → vv_V p l e { frames := 4, cells := 0, slots := 0, locals := 88 } s m args below meth c G A 3 Q 120 [(0, .ref mo), (1, .int (iI i)), (2, .int (iI j))] [] [ceO 7 mo [.int (iI th), .int (iI n), .int (iI ac), .ref tha, .int (iI (bZ gk)), .ref rea, .ref poa, .int (iI mn), .ref cha, .ref goa, .ref lea, .int (iI nv), .int (iI mm), .ref fia, .ref sea, .int (iI (bZ ck)), .ref sta, .ref lda, .ref vla, .int (iI (bZ gd)), .int (iI fl), .ref dia, .ref qua], ceZ G tha 25600 (fz B), ceZ G rea 25600 (fz H), ceI G poa 160 Nb, ceI G cha 160 C, ceZ G goa 25600 (fz D), ceI G lea 160 Ls] 0 0 := by
  intro d
  induction d with
  | zero =>
    intro j C hd hI
    have hz : j = mn := by omega
    subst hz
    refine vv_iload_n F zd_MO_know_120 rfl 2 rfl ?_
    refine vv_aload_n F zd_MO_know_121 rfl 0 rfl ?_
    refine vv_get F zd_MO_know_122 zf_MO 0 rfl rfl 7 (by decide) zw_763 rfl ?_
    refine vv_icmp_ge (tgt := 181) F zd_MO_know_125 rfl (by first | exact ⟨by omega, by omega⟩) (by first | exact ⟨by omega, by omega⟩) (fun _ => ?_) (fun h9 => absurd h9 (by omega))
    exact k C hI
  | succ d ih =>
    intro j C hd hI
    have q1 := hI.2.2.1
    have q2 := hI.2.2.2.1
    obtain ⟨q3, q4, -, -⟩ := hI.2.1 j.toNat (by omega) (by omega)
    refine vv_iload_n F zd_MO_know_120 rfl 2 rfl ?_
    refine vv_aload_n F zd_MO_know_121 rfl 0 rfl ?_
    refine vv_get F zd_MO_know_122 zf_MO 0 rfl rfl 7 (by decide) zw_763 rfl ?_
    refine vv_icmp_ge (tgt := 181) F zd_MO_know_125 rfl (by first | exact ⟨by omega, by omega⟩) (by first | exact ⟨by omega, by omega⟩) (fun h9 => absurd h9 (by omega)) (fun _ => ?_)
    refine vv_aload_n F zd_MO_know_128 rfl 0 rfl ?_
    refine vv_get F zd_MO_know_129 zf_MO 0 rfl rfl 8 (by decide) zw_764 rfl ?_
    refine vv_iload_n F zd_MO_know_132 rfl 1 rfl ?_
    refine vv_aload_n F zd_MO_know_133 rfl 0 rfl ?_
    refine vv_get F zd_MO_know_134 zf_MO 0 rfl rfl 8 (by decide) zw_764 rfl ?_
    refine vv_iload_n F zd_MO_know_137 rfl 2 rfl ?_
    refine vv_iald F zd_MO_know_138 4 rfl ⟨by omega, by omega⟩ (by decide) ?_
    refine vv_aload_n F zd_MO_know_139 rfl 0 rfl ?_
    refine vv_get F zd_MO_know_140 zf_MO 0 rfl rfl 8 (by decide) zw_764 rfl ?_
    refine vv_iload_n F zd_MO_know_143 rfl 1 rfl ?_
    refine vv_iald F zd_MO_know_144 4 rfl ⟨by omega, by omega⟩ (by decide) ?_
    refine vv_icmp_lt (tgt := 168) F zd_MO_know_145 rfl (by first | exact ⟨by omega, by omega⟩) (by first | exact ⟨by omega, by omega⟩) (fun h1 => ?_) (fun h1 => ?_)
    · refine vv_aload_n F zd_MO_know_168 rfl 0 rfl ?_
      refine vv_get F zd_MO_know_169 zf_MO 0 rfl rfl 8 (by decide) zw_764 rfl ?_
      refine vv_iload_n F zd_MO_know_172 rfl 1 rfl ?_
      refine vv_iald F zd_MO_know_173 4 rfl ⟨by omega, by omega⟩ (by decide) ?_
      refine vv_iast (x := C i.toNat) (ws' := [ceO 7 mo [.int (iI th), .int (iI n), .int (iI ac), .ref tha, .int (iI (bZ gk)), .ref rea, .ref poa, .int (iI mn), .ref cha, .ref goa, .ref lea, .int (iI nv), .int (iI mm), .ref fia, .ref sea, .int (iI (bZ ck)), .ref sta, .ref lda, .ref vla, .int (iI (bZ gd)), .int (iI fl), .ref dia, .ref qua], ceZ G tha 25600 (fz B), ceZ G rea 25600 (fz H), ceI G poa 160 Nb, ceI G cha 160 (va_up C i.toNat (C i.toNat)), ceZ G goa 25600 (fz D), ceI G lea 160 Ls]) F zd_MO_know_174 4 rfl ⟨by omega, by omega⟩ (by decide) rfl ?_
      refine vv_iinc (j := 2) (lv' := [(0, .ref mo), (1, .int (iI i)), (2, .int (iI (j + 1)))]) F zd_MO_know_175 rfl (by decide) [1, 2, 0] rfl ?_
      refine vv_goto (tgt := 120) F zd_MO_know_178 rfl ?_
      exact ih (j + 1) (va_up C i.toNat (C i.toNat)) (by omega) (⟨by omega, chm_up hI.2.1, chr_keep hI.2.2 (fun d hd hcd hD => by have h7 : d = j.toNat := (by omega); rw [h7]; omega)⟩)
    · refine vv_aload_n F zd_MO_know_148 rfl 0 rfl ?_
      refine vv_iload_n F zd_MO_know_149 rfl 1 rfl ?_
      refine vv_iload_n F zd_MO_know_150 rfl 2 rfl ?_
      refine vv_callV (q0 := 0) (As := [.int (iI i), .int (iI j)]) (rest := [.int (iI i), .ref cha]) (wr := [ceZ G tha 25600 (fz B), ceZ G rea 25600 (fz H), ceI G poa 160 Nb, ceI G cha 160 C, ceI G lea 160 Ls]) F (cn_MO_goesTo l G mo th n ac tha gk rea poa mn cha goa lea nv mm fia sea ck sta lda vla gd fl dia qua D i j ⟨by omega, by omega⟩ ⟨by omega, by omega⟩) zm_MO_goesTo ⟨zw_880, zs_MO_goesTo⟩ zw_878 zd_MO_know_151 ⟨by decide, by decide⟩ ⟨by decide, by decide⟩ [0, 5] [1, 2, 3, 4, 6] rfl rfl ⟨rfl, rfl, by decide⟩ rfl rfl rfl rfl (Nat.le_of_ble_eq_true rfl) (vv_then (ws' := [ceO 7 mo [.int (iI th), .int (iI n), .int (iI ac), .ref tha, .int (iI (bZ gk)), .ref rea, .ref poa, .int (iI mn), .ref cha, .ref goa, .ref lea, .int (iI nv), .int (iI mm), .ref fia, .ref sea, .int (iI (bZ ck)), .ref sta, .ref lda, .ref vla, .int (iI (bZ gd)), .int (iI fl), .ref dia, .ref qua], ceZ G tha 25600 (fz B), ceZ G rea 25600 (fz H), ceI G poa 160 Nb, ceI G cha 160 C, ceZ G goa 25600 (fz D), ceI G lea 160 Ls]) (st' := [.int (iI (bZ (D i.toNat j.toNat))), .int (iI i), .ref cha]) [5, 0, 1, 2, 3, 6, 4] rfl rfl rfl ?_)
      refine vv_if_eq (tgt := 168) F zd_MO_know_154 rfl (bZ_rg _) (fun h2 => ?_) (fun h2 => ?_)
      · have h2 : (D i.toNat j.toNat) = false := (bZ_0 _).mp h2
        refine vv_aload_n F zd_MO_know_168 rfl 0 rfl ?_
        refine vv_get F zd_MO_know_169 zf_MO 0 rfl rfl 8 (by decide) zw_764 rfl ?_
        refine vv_iload_n F zd_MO_know_172 rfl 1 rfl ?_
        refine vv_iald F zd_MO_know_173 4 rfl ⟨by omega, by omega⟩ (by decide) ?_
        refine vv_iast (x := C i.toNat) (ws' := [ceO 7 mo [.int (iI th), .int (iI n), .int (iI ac), .ref tha, .int (iI (bZ gk)), .ref rea, .ref poa, .int (iI mn), .ref cha, .ref goa, .ref lea, .int (iI nv), .int (iI mm), .ref fia, .ref sea, .int (iI (bZ ck)), .ref sta, .ref lda, .ref vla, .int (iI (bZ gd)), .int (iI fl), .ref dia, .ref qua], ceZ G tha 25600 (fz B), ceZ G rea 25600 (fz H), ceI G poa 160 Nb, ceI G cha 160 (va_up C i.toNat (C i.toNat)), ceZ G goa 25600 (fz D), ceI G lea 160 Ls]) F zd_MO_know_174 4 rfl ⟨by omega, by omega⟩ (by decide) rfl ?_
        refine vv_iinc (j := 2) (lv' := [(0, .ref mo), (1, .int (iI i)), (2, .int (iI (j + 1)))]) F zd_MO_know_175 rfl (by decide) [1, 2, 0] rfl ?_
        refine vv_goto (tgt := 120) F zd_MO_know_178 rfl ?_
        exact ih (j + 1) (va_up C i.toNat (C i.toNat)) (by omega) (⟨by omega, chm_up hI.2.1, chr_keep hI.2.2 (fun d hd hcd hD => by have h7 : d = j.toNat := (by omega); rw [h7, h2] at hD; cases hD)⟩)
      · have h2 : (D i.toNat j.toNat) = true := by cases hb9 : (D i.toNat j.toNat) with | true => rfl | false => exact absurd ((bZ_0 _).mpr hb9) h2
        refine vv_aload_n F zd_MO_know_157 rfl 0 rfl ?_
        refine vv_get F zd_MO_know_158 zf_MO 0 rfl rfl 8 (by decide) zw_764 rfl ?_
        refine vv_iload_n F zd_MO_know_161 rfl 2 rfl ?_
        refine vv_iald F zd_MO_know_162 4 rfl ⟨by omega, by omega⟩ (by decide) ?_
        refine vv_iconst F zd_MO_know_163 ?_
        refine vv_iadd F zd_MO_know_164 ?_
        refine vv_goto (tgt := 174) F zd_MO_know_165 rfl ?_
        refine vv_iast (x := (C j.toNat) + 1) (ws' := [ceO 7 mo [.int (iI th), .int (iI n), .int (iI ac), .ref tha, .int (iI (bZ gk)), .ref rea, .ref poa, .int (iI mn), .ref cha, .ref goa, .ref lea, .int (iI nv), .int (iI mm), .ref fia, .ref sea, .int (iI (bZ ck)), .ref sta, .ref lda, .ref vla, .int (iI (bZ gd)), .int (iI fl), .ref dia, .ref qua], ceZ G tha 25600 (fz B), ceZ G rea 25600 (fz H), ceI G poa 160 Nb, ceI G cha 160 (va_up C i.toNat ((C j.toNat) + 1)), ceZ G goa 25600 (fz D), ceI G lea 160 Ls]) F zd_MO_know_174 4 rfl ⟨by omega, by omega⟩ (by decide) rfl ?_
        refine vv_iinc (j := 2) (lv' := [(0, .ref mo), (1, .int (iI i)), (2, .int (iI (j + 1)))]) F zd_MO_know_175 rfl (by decide) [1, 2, 0] rfl ?_
        refine vv_goto (tgt := 120) F zd_MO_know_178 rfl ?_
        exact ih (j + 1) (va_up C i.toNat ((C j.toNat) + 1)) (by omega) (⟨by omega, chm_up hI.2.1, chr_put hI.2.1 hI.2.2 (by omega) (by omega) h2 (by omega)⟩)

set_option maxHeartbeats 4000000 in
set_option maxRecDepth 100000 in
theorem lp_MO_k4 {p : Program} {l : Launch} {e : Env} {s : State} {m : MethodId} {args : Array Value} {below : List Frame} {meth : Method} {c : Code} {A : Nat → Prop} {Q : State → Prop} {G : vv_G} (F : vv_F p s m args meth c zc_MO_know "ClauseGraphModel" "know" none G A 3) (mo : Nat) (th : Int) (n : Int) (ac : Int) (tha : Nat) (gk : Bool) (rea : Nat) (poa : Nat) (mn : Int) (cha : Nat) (goa : Nat) (lea : Nat) (nv : Int) (mm : Int) (fia : Nat) (sea : Nat) (ck : Bool) (sta : Nat) (lda : Nat) (vla : Nat) (gd : Bool) (fl : Int) (dia : Nat) (qua : Nat) (B : Nat → Nat → Bool) (H : Nat → Nat → Bool) (Nb : Nat → Int) (D : Nat → Nat → Bool) (Ls : Nat → Int) (hm : 0 ≤ mn ∧ mn ≤ 160)
    (k : ∀ (C : Nat → Int), ((-1 : Int) < mn ∧ chm D mn ((-1 : Int) + 1) C) → vv_V p l e { frames := 4, cells := 0, slots := 0, locals := 88 } s m args below meth c G A 3 Q 187 [(0, .ref mo), (1, .int (iI (-1 : Int)))] [] [ceO 7 mo [.int (iI th), .int (iI n), .int (iI ac), .ref tha, .int (iI (bZ gk)), .ref rea, .ref poa, .int (iI mn), .ref cha, .ref goa, .ref lea, .int (iI nv), .int (iI mm), .ref fia, .ref sea, .int (iI (bZ ck)), .ref sta, .ref lda, .ref vla, .int (iI (bZ gd)), .int (iI fl), .ref dia, .ref qua], ceZ G tha 25600 (fz B), ceZ G rea 25600 (fz H), ceI G poa 160 Nb, ceI G cha 160 C, ceZ G goa 25600 (fz D), ceI G lea 160 Ls] 0 0)  :
    ∀ (d : Nat) (i : Int) (C : Nat → Int), i = (-1 : Int) + (d : Int) → (i < mn ∧ chm D mn (i + 1) C) → vv_V p l e { frames := 4, cells := 0, slots := 0, locals := 88 } s m args below meth c G A 3 Q 105 [(0, .ref mo), (1, .int (iI i))] [] [ceO 7 mo [.int (iI th), .int (iI n), .int (iI ac), .ref tha, .int (iI (bZ gk)), .ref rea, .ref poa, .int (iI mn), .ref cha, .ref goa, .ref lea, .int (iI nv), .int (iI mm), .ref fia, .ref sea, .int (iI (bZ ck)), .ref sta, .ref lda, .ref vla, .int (iI (bZ gd)), .int (iI fl), .ref dia, .ref qua], ceZ G tha 25600 (fz B), ceZ G rea 25600 (fz H), ceI G poa 160 Nb, ceI G cha 160 C, ceZ G goa 25600 (fz D), ceI G lea 160 Ls] 0 0 := by
  intro d
  induction d with
  | zero =>
    intro i C hd hI
    have hz : i = (-1 : Int) := by omega
    subst hz
    refine vv_iload_n F zd_MO_know_105 rfl 1 rfl ?_
    refine vv_if_lt (tgt := 187) F zd_MO_know_106 rfl (by first | exact ⟨by omega, by omega⟩) (fun _ => ?_) (fun h9 => absurd h9 (by omega))
    exact k C hI
  | succ d ih =>
    intro i C hd hI
    refine vv_iload_n F zd_MO_know_105 rfl 1 rfl ?_
    refine vv_if_lt (tgt := 187) F zd_MO_know_106 rfl (by first | exact ⟨by omega, by omega⟩) (fun h9 => absurd h9 (by omega)) (fun _ => ?_)
    refine vv_aload_n F zd_MO_know_109 rfl 0 rfl ?_
    refine vv_get F zd_MO_know_110 zf_MO 0 rfl rfl 8 (by decide) zw_764 rfl ?_
    refine vv_iload_n F zd_MO_know_113 rfl 1 rfl ?_
    refine vv_iconst F zd_MO_know_114 ?_
    refine vv_iast (x := 1) (ws' := [ceO 7 mo [.int (iI th), .int (iI n), .int (iI ac), .ref tha, .int (iI (bZ gk)), .ref rea, .ref poa, .int (iI mn), .ref cha, .ref goa, .ref lea, .int (iI nv), .int (iI mm), .ref fia, .ref sea, .int (iI (bZ ck)), .ref sta, .ref lda, .ref vla, .int (iI (bZ gd)), .int (iI fl), .ref dia, .ref qua], ceZ G tha 25600 (fz B), ceZ G rea 25600 (fz H), ceI G poa 160 Nb, ceI G cha 160 (va_up C i.toNat 1), ceZ G goa 25600 (fz D), ceI G lea 160 Ls]) F zd_MO_know_115 4 rfl ⟨by omega, by omega⟩ (by decide) rfl ?_
    refine vv_iload_n F zd_MO_know_116 rfl 1 rfl ?_
    refine vv_iconst F zd_MO_know_117 ?_
    refine vv_iadd F zd_MO_know_118 ?_
    refine vv_istore_n (lv' := [(0, .ref mo), (1, .int (iI i)), (2, .int (iI (i + 1)))]) F zd_MO_know_119 rfl (by decide) [1, 2, 0] rfl ?_
    refine lp_MO_k3 F mo th n ac tha gk rea poa mn cha goa lea nv mm fia sea ck sta lda vla gd fl dia qua B H Nb D Ls i hm ⟨by omega, by omega⟩ (fun C9 hJ => ?_) (mn - (i + 1)).toNat (i + 1) (va_up C i.toNat 1) (by omega) ⟨by omega, chm_up (by rw [show ((i.toNat : Nat) : Int) = i by omega]; exact hI.2), ⟨by rw [va_up_self]; omega, by rw [va_up_self]; omega, fun d q1 q2 q3 => by omega, Or.inl (va_up_self _ _ _)⟩⟩
    refine vv_iinc (j := 1) (lv' := [(0, .ref mo), (1, .int (iI (i + (-1)))), (2, .int (iI mn))]) F zd_MO_know_181 rfl (by decide) [1, 0, 2] rfl ?_
    refine vv_goto (tgt := 105) F zd_MO_know_184 rfl ?_
    refine vv_locals (lv' := [(0, .ref mo), (1, .int (iI (i + (-1))))]) [0, 1] rfl ?_
    exact ih (i - 1) C9 (by omega) (⟨by omega, fun c h1 h2 => by
      by_cases z : c = i.toNat
      · subst z; exact ⟨hJ.2.2.1, hJ.2.2.2.1, hJ.2.2.2.2.1, hJ.2.2.2.2.2⟩
      · exact hJ.2.1 c (by omega) h2⟩)

set_option maxHeartbeats 4000000 in
set_option maxRecDepth 100000 in
theorem cn_MO_know (l : Launch) (G : vv_G) (mo : Nat) (th : Int) (n : Int) (ac : Int) (tha : Nat) (gk : Bool) (rea : Nat) (poa : Nat) (mn : Int) (cha : Nat) (goa : Nat) (lea : Nat) (nv : Int) (mm : Int) (fia : Nat) (sea : Nat) (ck : Bool) (sta : Nat) (lda : Nat) (vla : Nat) (gd : Bool) (fl : Int) (dia : Nat) (qua : Nat) (B : Nat → Nat → Bool) (H : Nat → Nat → Bool) (Nb : Nat → Int) (C : Nat → Int) (D : Nat → Nat → Bool) (Ls : Nat → Int) (hn : 1 ≤ n ∧ n ≤ 160) (hB : ∀ x y, B x y = true → x < n.toNat ∧ y < n.toNat) (hg : gk = true → mK B n.toNat H Nb Ls mn D C) :
    vv_C l zy_MO_know zc_MO_know 3 none { frames := 4, cells := 0, slots := 0, locals := 88 } G [.ref mo] [ceO 7 mo [.int (iI th), .int (iI n), .int (iI ac), .ref tha, .int (iI (bZ gk)), .ref rea, .ref poa, .int (iI mn), .ref cha, .ref goa, .ref lea, .int (iI nv), .int (iI mm), .ref fia, .ref sea, .int (iI (bZ ck)), .ref sta, .ref lda, .ref vla, .int (iI (bZ gd)), .int (iI fl), .ref dia, .ref qua], ceZ G tha 25600 (fz B), ceZ G rea 25600 (fz H), ceI G poa 160 Nb, ceI G cha 160 C, ceZ G goa 25600 (fz D), ceI G lea 160 Ls] (fun v7 w7 => ∃ (H2 : Nat → Nat → Bool) (Nb2 : Nat → Int) (mn2 : Int) (C2 : Nat → Int) (D2 : Nat → Nat → Bool) (Ls2 : Nat → Int), (mK B n.toNat H2 Nb2 Ls2 mn2 D2 C2) ∧ v7 = none ∧ w7 = [ceO 7 mo [.int (iI th), .int (iI n), .int (iI ac), .ref tha, .int (iI (bZ true)), .ref rea, .ref poa, .int (iI mn2), .ref cha, .ref goa, .ref lea, .int (iI nv), .int (iI mm), .ref fia, .ref sea, .int (iI (bZ ck)), .ref sta, .ref lda, .ref vla, .int (iI (bZ gd)), .int (iI fl), .ref dia, .ref qua], ceZ G tha 25600 (fz B), ceZ G rea 25600 (fz H2), ceI G poa 160 Nb2, ceI G cha 160 C2, ceZ G goa 25600 (fz D2), ceI G lea 160 Ls2]) := by
  refine vv_met (by decide +kernel) (Nat.le_of_ble_eq_true rfl) rfl ?_
  intro p e s m args below meth c A F
  refine vv_aload_n F zd_MO_know_0 rfl 0 rfl ?_
  refine vv_get F zd_MO_know_1 zf_MO 0 rfl rfl 4 (by decide) zw_760 rfl ?_
  refine vv_if_eq (tgt := 8) F zd_MO_know_4 rfl (bZ_rg _) (fun h1 => ?_) (fun h1 => ?_)
  · have h1 : gk = false := (bZ_0 _).mp h1
    refine vv_aload_n F zd_MO_know_8 rfl 0 rfl ?_
    refine vv_iconst F zd_MO_know_9 ?_
    refine vv_ti (show (1 : Int) = bZ true from rfl) ?_
    refine vv_put (v := .int (iI (bZ true))) (ws' := [ceO 7 mo [.int (iI th), .int (iI n), .int (iI ac), .ref tha, .int (iI (bZ true)), .ref rea, .ref poa, .int (iI mn), .ref cha, .ref goa, .ref lea, .int (iI nv), .int (iI mm), .ref fia, .ref sea, .int (iI (bZ ck)), .ref sta, .ref lda, .ref vla, .int (iI (bZ gd)), .int (iI fl), .ref dia, .ref qua], ceZ G tha 25600 (fz B), ceZ G rea 25600 (fz H), ceI G poa 160 Nb, ceI G cha 160 C, ceZ G goa 25600 (fz D), ceI G lea 160 Ls]) F zd_MO_know_10 zf_MO zt_MO_ok zn_MO 0 rfl rfl 4 (by decide) zw_760 rfl (nb_bZ true) (fb_bZ true) (Nat.le_of_ble_eq_true rfl) rfl ?_
    refine vv_iconst F zd_MO_know_13 ?_
    refine vv_istore_n (lv' := [(0, .ref mo), (1, .int (iI 0))]) F zd_MO_know_14 rfl (by decide) [1, 0] rfl ?_
    refine lp_MO_k2 F mo th n ac tha true rea poa mn cha goa lea nv mm fia sea ck sta lda vla gd fl dia qua B Nb C D Ls hn hB (fun H9 hI => ?_) n.toNat 0 H (by omega) ⟨by omega, fun x y hx hy => by omega⟩
    refine vv_aload_n F zd_MO_know_78 rfl 0 rfl ?_
    refine vv_aload_n F zd_MO_know_79 rfl 0 rfl ?_
    refine vv_get F zd_MO_know_80 zf_MO 0 rfl rfl 5 (by decide) zw_761 rfl ?_
    refine vv_aload_n F zd_MO_know_83 rfl 0 rfl ?_
    refine vv_get F zd_MO_know_84 zf_MO 0 rfl rfl 1 (by decide) zw_757 rfl ?_
    refine vv_callV (q0 := 0) (As := [.ref rea, .int (iI n)]) (rest := []) (wr := [ceO 7 mo [.int (iI th), .int (iI n), .int (iI ac), .ref tha, .int (iI (bZ true)), .ref rea, .ref poa, .int (iI mn), .ref cha, .ref goa, .ref lea, .int (iI nv), .int (iI mm), .ref fia, .ref sea, .int (iI (bZ ck)), .ref sta, .ref lda, .ref vla, .int (iI (bZ gd)), .int (iI fl), .ref dia, .ref qua], ceZ G tha 25600 (fz B), ceI G poa 160 Nb, ceI G cha 160 C, ceZ G goa 25600 (fz D), ceI G lea 160 Ls]) F (cn_MO_closeAll l G mo rea H9 n ⟨by omega, by omega⟩) zm_MO_closeAll ⟨zw_860, zs_MO_closeAll⟩ zw_858 zd_MO_know_87 ⟨by decide, by decide⟩ ⟨by decide, by decide⟩ [2] [0, 1, 3, 4, 5, 6] rfl rfl ⟨rfl, rfl, by decide⟩ rfl rfl rfl rfl (Nat.le_of_ble_eq_true rfl) (fun v9 w9 hp9 => ?_)
    obtain ⟨T2_1, hf1_0, rfl, rfl⟩ := hp9
    refine vv_thenE (ws' := [ceO 7 mo [.int (iI th), .int (iI n), .int (iI ac), .ref tha, .int (iI (bZ true)), .ref rea, .ref poa, .int (iI mn), .ref cha, .ref goa, .ref lea, .int (iI nv), .int (iI mm), .ref fia, .ref sea, .int (iI (bZ ck)), .ref sta, .ref lda, .ref vla, .int (iI (bZ gd)), .int (iI fl), .ref dia, .ref qua], ceZ G tha 25600 (fz B), ceZ G rea 25600 (fz T2_1), ceI G poa 160 Nb, ceI G cha 160 C, ceZ G goa 25600 (fz D), ceI G lea 160 Ls]) (st' := []) (kc' := 0) (ks' := 0) [0, 1, 6, 2, 3, 4, 5] rfl rfl rfl ?_
    have hcl := rsN_cl hB (R := H9) (T := T2_1) (fun x y hx hy => hI.2 x y (by omega) (by omega)) hf1_0
    refine vv_aload_n F zd_MO_know_90 rfl 0 rfl ?_
    refine vv_callV (q0 := 0) (As := []) (rest := []) (wr := [ceZ G tha 25600 (fz B), ceI G cha 160 C, ceZ G goa 25600 (fz D), ceI G lea 160 Ls]) F (cn_MO_numberParts l G mo th n ac tha true rea poa mn cha goa lea nv mm fia sea ck sta lda vla gd fl dia qua T2_1 Nb B _ ⟨by omega, by omega⟩ hcl) zm_MO_numberParts ⟨zw_864, zs_MO_numberParts⟩ zw_862 zd_MO_know_91 ⟨by decide, by decide⟩ ⟨by decide, by decide⟩ [0, 2, 3] [1, 4, 5, 6] rfl rfl ⟨rfl, rfl, by decide⟩ rfl rfl rfl rfl (Nat.le_of_ble_eq_true rfl) (fun v9 w9 hp9 => ?_)
    obtain ⟨Nb2_2, mn2_3, gl_4, hf2_0, rfl, rfl⟩ := hp9
    refine vv_thenE (ws' := [ceO 7 mo [.int (iI th), .int (iI n), .int (iI ac), .ref tha, .int (iI (bZ true)), .ref rea, .ref poa, .int (iI mn2_3), .ref cha, .ref goa, .ref lea, .int (iI nv), .int (iI mm), .ref fia, .ref sea, .int (iI (bZ ck)), .ref sta, .ref lda, .ref vla, .int (iI (bZ gd)), .int (iI fl), .ref dia, .ref qua], ceZ G tha 25600 (fz B), ceZ G rea 25600 (fz T2_1), ceI G poa 160 Nb2_2, ceI G cha 160 C, ceZ G goa 25600 (fz D), ceI G lea 160 Ls]) (st' := []) (kc' := 0) (ks' := 0) [4, 0, 5, 6, 1, 2, 3] rfl rfl rfl ?_
    obtain ⟨k1, k2, k3, k4⟩ := numC_in hf2_0
    refine vv_aload_n F zd_MO_know_94 rfl 0 rfl ?_
    refine vv_callV (q0 := 0) (As := []) (rest := []) (wr := [ceZ G rea 25600 (fz T2_1), ceI G cha 160 C]) F (cn_MO_drawParts l G mo th n ac tha true rea poa mn2_3 cha goa lea nv mm fia sea ck sta lda vla gd fl dia qua B Nb2_2 Ls D ⟨by omega, by omega⟩ hB (fun a ha => by have := k1 a ha; omega)) zm_MO_drawParts ⟨zw_876, zs_MO_drawParts⟩ zw_874 zd_MO_know_95 ⟨by decide, by decide⟩ ⟨by decide, by decide⟩ [0, 1, 3, 5, 6] [2, 4] rfl rfl ⟨rfl, rfl, by decide⟩ rfl rfl rfl rfl (Nat.le_of_ble_eq_true rfl) (fun v9 w9 hp9 => ?_)
    obtain ⟨D2_5, Ls2_6, hf3_0, hf3_1, rfl, rfl⟩ := hp9
    refine vv_thenE (ws' := [ceO 7 mo [.int (iI th), .int (iI n), .int (iI ac), .ref tha, .int (iI (bZ true)), .ref rea, .ref poa, .int (iI mn2_3), .ref cha, .ref goa, .ref lea, .int (iI nv), .int (iI mm), .ref fia, .ref sea, .int (iI (bZ ck)), .ref sta, .ref lda, .ref vla, .int (iI (bZ gd)), .int (iI fl), .ref dia, .ref qua], ceZ G tha 25600 (fz B), ceZ G rea 25600 (fz T2_1), ceI G poa 160 Nb2_2, ceI G cha 160 C, ceZ G goa 25600 (fz D2_5), ceI G lea 160 Ls2_6]) (st' := []) (kc' := 0) (ks' := 0) [2, 3, 0, 4, 1, 5, 6] rfl rfl rfl ?_
    have hnc := drL_num hf2_0 hf3_0
    refine vv_aload_n F zd_MO_know_98 rfl 0 rfl ?_
    refine vv_get F zd_MO_know_99 zf_MO 0 rfl rfl 7 (by decide) zw_763 rfl ?_
    refine vv_iconst F zd_MO_know_102 ?_
    refine vv_isub F zd_MO_know_103 ?_
    refine vv_istore_n (lv' := [(0, .ref mo), (1, .int (iI (mn2_3 - 1)))]) F zd_MO_know_104 rfl (by decide) [1, 0] rfl ?_
    refine lp_MO_k4 F mo th n ac tha true rea poa mn2_3 cha goa lea nv mm fia sea ck sta lda vla gd fl dia qua B T2_1 Nb2_2 D2_5 Ls2_6 ⟨by omega, by omega⟩ (fun C9 hX => ?_) (mn2_3).toNat (mn2_3 - 1) C (by omega) ⟨by omega, fun c h1 h2 => by omega⟩
    exact vv_vret F zd_MO_know_187 ⟨_, _, _, C9, _, _, ⟨hcl, hnc, hf3_1, by have h9 := hX.2; exact h9⟩, rfl, rfl⟩
  · have h1 : gk = true := by cases hb9 : gk with | true => rfl | false => exact absurd ((bZ_0 _).mpr hb9) h1
    exact vv_vret F zd_MO_know_7 ⟨H, Nb, mn, C, D, Ls, hg h1, rfl, by rw [h1]⟩
