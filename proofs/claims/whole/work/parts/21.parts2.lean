set_option maxHeartbeats 4000000 in
set_option maxRecDepth 100000 in
theorem cn_PA_sizeOf (l : Launch) (G : vv_G) (y : Nat) (wt : Nat) (cn : Nat) (sm : Nat) (gs : Nat) (nb : Nat) (ls : Nat) (x : Nat) (w : Nat) (go : Nat) (ta : Nat) (o : Nat) (ah : Nat) (ab : Nat) (bh : Nat) (bb : Nat) (so : Nat) (cs : Int) (mn : Int) (ac : Int) (rk : Bool) (n : Int) (ch : Int) (H : Nat → Nat → Bool) (K : Nat → Nat → Bool) (f : Nat → Int) (Ls : Nat → Int) (v : Int) (hv : 0 ≤ v ∧ v < 160) (hl : 0 ≤ Ls v.toNat ∧ Ls v.toNat < 160) :
    vv_D l zy_PA_sizeOf zc_PA_sizeOf 2 (some .int) { frames := 3, cells := 0, slots := 0, locals := 67 } G [.ref y, .int (iI v)] [ceO 3 y [.ref wt, .ref cn, .ref sm, .ref gs, .int (iI cs), .ref x, .ref nb, .ref ls, .int (iI mn)], ceI G ls 160 Ls, ceO 2 x [.ref w, .ref go, .int (iI ac), .int (iI (bZ rk)), .ref ta, .ref o, .int (iI n), .int (iI ch)], ceO 4 o [.ref ah, .ref bh, .ref so], ceO 5 ah [.ref ab], ceJ G ab 480 (tw H), ceO 5 bh [.ref bb], ceJ G bb 480 (tw K), ceI G so 160 f] (some (.int (iI (cN (fun p => H (Ls v.toNat).toNat p && K (Ls v.toNat).toNat p) 192 : Int)))) [ceO 3 y [.ref wt, .ref cn, .ref sm, .ref gs, .int (iI cs), .ref x, .ref nb, .ref ls, .int (iI mn)], ceI G ls 160 Ls, ceO 2 x [.ref w, .ref go, .int (iI ac), .int (iI (bZ rk)), .ref ta, .ref o, .int (iI n), .int (iI ch)], ceO 4 o [.ref ah, .ref bh, .ref so], ceO 5 ah [.ref ab], ceJ G ab 480 (tw H), ceO 5 bh [.ref bb], ceJ G bb 480 (tw K), ceI G so 160 f] := by
  refine vv_met (by decide +kernel) (Nat.le_of_ble_eq_true rfl) rfl ?_
  intro p e s m args below meth c A F
  refine vv_aload_n F zd_PA_sizeOf_0 rfl 0 rfl ?_
  refine vv_get F zd_PA_sizeOf_1 zf_PA 0 rfl rfl 5 (by decide) zw_151 rfl ?_
  refine vv_get F zd_PA_sizeOf_4 zf_NE 2 rfl rfl 5 (by decide) zw_122 rfl ?_
  refine vv_aload_n F zd_PA_sizeOf_7 rfl 0 rfl ?_
  refine vv_get F zd_PA_sizeOf_8 zf_PA 0 rfl rfl 7 (by decide) zw_154 rfl ?_
  refine vv_iload_n F zd_PA_sizeOf_11 rfl 1 rfl ?_
  refine vv_iald F zd_PA_sizeOf_12 1 rfl ⟨by omega, by omega⟩ (by decide) ?_
  refine vv_callV (q0 := 3) (As := [.int (iI (Ls v.toNat))]) (rest := []) (wr := [ceO 3 y [.ref wt, .ref cn, .ref sm, .ref gs, .int (iI cs), .ref x, .ref nb, .ref ls, .int (iI mn)], ceI G ls 160 Ls, ceO 2 x [.ref w, .ref go, .int (iI ac), .int (iI (bZ rk)), .ref ta, .ref o, .int (iI n), .int (iI ch)]]) F (cn_RE_knotSize l G o ah ab bh bb so H K f (Ls v.toNat) ⟨by omega, by omega⟩) zm_RE_knotSize ⟨zw_312, zw_313⟩ zw_311 zd_PA_sizeOf_13 ⟨by decide, by decide⟩ ⟨by decide, by decide⟩ [3, 4, 5, 6, 7, 8] [0, 1, 2] rfl rfl ⟨rfl, rfl, by decide⟩ rfl rfl rfl rfl (Nat.le_of_ble_eq_true rfl) (vv_then (ws' := [ceO 3 y [.ref wt, .ref cn, .ref sm, .ref gs, .int (iI cs), .ref x, .ref nb, .ref ls, .int (iI mn)], ceI G ls 160 Ls, ceO 2 x [.ref w, .ref go, .int (iI ac), .int (iI (bZ rk)), .ref ta, .ref o, .int (iI n), .int (iI ch)], ceO 4 o [.ref ah, .ref bh, .ref so], ceO 5 ah [.ref ab], ceJ G ab 480 (tw H), ceO 5 bh [.ref bb], ceJ G bb 480 (tw K), ceI G so 160 f]) (st' := [.int (iI (cN (fun p => H (Ls v.toNat).toNat p && K (Ls v.toNat).toNat p) 192 : Int))]) [0, 1, 2, 3, 4, 5, 6, 7, 8] rfl rfl rfl ?_)
  exact vv_iret F zd_PA_sizeOf_16 ⟨rfl, rfl⟩

set_option maxHeartbeats 4000000 in
set_option maxRecDepth 100000 in
theorem lp_PA_ca1 {p : Program} {l : Launch} {e : Env} {s : State} {m : MethodId} {args : Array Value} {below : List Frame} {meth : Method} {c : Code} {A : Nat → Prop} {Q : State → Prop} {G : vv_G} (F : vv_F p s m args meth c zc_PA_countArcs "ClauseGraph$Parts" "countArcs" (some .int) G A 7) (y : Nat) (wt : Nat) (cn : Nat) (sm : Nat) (gs : Nat) (nb : Nat) (ls : Nat) (x : Nat) (w : Nat) (go : Nat) (ta : Nat) (o : Nat) (tb : Nat) (B : Nat → Nat → Bool) (cs : Int) (mn : Int) (ac : Int) (rk : Bool) (n : Int) (ch : Int) (Nb : Nat → Int) (v : Int) (ins : Bool) (i : Int) (z0 : Int) (g : Nat → Int) (g0 : Nat → Int) (hn : 0 ≤ n ∧ n ≤ 160) (hB : ∀ x y, B x y = true → x < n.toNat ∧ y < n.toNat) (hv : 0 ≤ v ∧ v < 160) (hNb : ∀ j, j < n.toNat → -1 ≤ Nb j ∧ Nb j < 160) (hi : 0 ≤ i ∧ i < n) (hl : lsd (B i.toNat) 192 0 g0 g)
    (k : ∀ (z : Int), (0 ≤ (cN (B i.toNat) 192 : Int) ∧ z = z0 + (cN (fun b => B i.toNat b && decide (cN (B i.toNat) b < (cN (B i.toNat) 192 : Int).toNat) && (decide (Nb b = v) == ins)) 192 : Int)) → vv_V p l e { frames := 3, cells := 0, slots := 0, locals := 70 } s m args below meth c G A 7 Q 95 [(0, .ref y), (1, .int (iI v)), (2, .int (iI (bZ ins))), (3, .int (iI z)), (4, .int (iI i)), (5, .int (iI (cN (B i.toNat) 192 : Int))), (6, .int (iI (cN (B i.toNat) 192 : Int)))] [] [ceO 3 y [.ref wt, .ref cn, .ref sm, .ref gs, .int (iI cs), .ref x, .ref nb, .ref ls, .int (iI mn)], ceI G sm 160 g, ceI G nb 160 Nb, ceO 2 x [.ref w, .ref go, .int (iI ac), .int (iI (bZ rk)), .ref ta, .ref o, .int (iI n), .int (iI ch)], ceO 5 ta [.ref tb], ceJ G tb 480 (tw B)] 0 0)  :
    ∀ (d : Nat) (j : Int) (z : Int), j + (d : Int) = (cN (B i.toNat) 192 : Int) → (0 ≤ j ∧ z = z0 + (cN (fun b => B i.toNat b && decide (cN (B i.toNat) b < j.toNat) && (decide (Nb b = v) == ins)) 192 : Int)) → vv_V p l e { frames := 3, cells := 0, slots := 0, locals := 70 } s m args below meth c G A 7 Q 54 [(0, .ref y), (1, .int (iI v)), (2, .int (iI (bZ ins))), (3, .int (iI z)), (4, .int (iI i)), (5, .int (iI (cN (B i.toNat) 192 : Int))), (6, .int (iI j))] [] [ceO 3 y [.ref wt, .ref cn, .ref sm, .ref gs, .int (iI cs), .ref x, .ref nb, .ref ls, .int (iI mn)], ceI G sm 160 g, ceI G nb 160 Nb, ceO 2 x [.ref w, .ref go, .int (iI ac), .int (iI (bZ rk)), .ref ta, .ref o, .int (iI n), .int (iI ch)], ceO 5 ta [.ref tb], ceJ G tb 480 (tw B)] 0 0 := by
  intro d
  induction d with
  | zero =>
    intro j z hd hI
    have hz : j = (cN (B i.toNat) 192 : Int) := by omega
    subst hz
    have hb := cN_160 (g := B i.toNat) (fun y hy => by have := hB i.toNat y hy; omega)
    refine vv_iload F zd_PA_countArcs_54 6 rfl ?_
    refine vv_iload F zd_PA_countArcs_56 5 rfl ?_
    refine vv_icmp_ge (tgt := 95) F zd_PA_countArcs_58 rfl (by first | exact ⟨by omega, by omega⟩) (by first | exact ⟨by omega, by omega⟩) (fun _ => ?_) (fun h9 => absurd h9 (by omega))
    exact k z hI
  | succ d ih =>
    intro j z hd hI
    have wB : wfB B := fun x y h => by have := hB x y h; omega
    have hb := cN_160 (fun y hy => (wB i.toNat y hy).2)
    obtain ⟨p9, hp1, hp2, hp3, hp4⟩ := lsd_at0 hl (i := j.toNat) (by omega)
    have hp5 := hB i.toNat p9 hp2
    have hp6 := hNb p9 hp5.2
    have hp7 : (g j.toNat).toNat = p9 := by omega
    have hrk := rk_step (q := fun b => decide (Nb b = v) == ins) hp2 hp3 (show p9 < 192 by omega)
    rw [← show (j + 1).toNat = j.toNat + 1 by omega] at hrk
    rw [← hp7] at hrk hp6
    refine vv_iload F zd_PA_countArcs_54 6 rfl ?_
    refine vv_iload F zd_PA_countArcs_56 5 rfl ?_
    refine vv_icmp_ge (tgt := 95) F zd_PA_countArcs_58 rfl (by first | exact ⟨by omega, by omega⟩) (by first | exact ⟨by omega, by omega⟩) (fun h9 => absurd h9 (by omega)) (fun _ => ?_)
    refine vv_iload_n F zd_PA_countArcs_61 rfl 2 rfl ?_
    refine vv_aload_n F zd_PA_countArcs_62 rfl 0 rfl ?_
    refine vv_get F zd_PA_countArcs_63 zf_PA 0 rfl rfl 6 (by decide) zw_152 rfl ?_
    refine vv_aload_n F zd_PA_countArcs_66 rfl 0 rfl ?_
    refine vv_get F zd_PA_countArcs_67 zf_PA 0 rfl rfl 2 (by decide) zw_147 rfl ?_
    refine vv_iload F zd_PA_countArcs_70 6 rfl ?_
    refine vv_iald F zd_PA_countArcs_72 1 rfl ⟨by omega, by omega⟩ (by decide) ?_
    refine vv_iald F zd_PA_countArcs_73 2 rfl ⟨by omega, by omega⟩ (by decide) ?_
    refine vv_iload_n F zd_PA_countArcs_74 rfl 1 rfl ?_
    refine vv_icmp_ne (tgt := 82) F zd_PA_countArcs_75 rfl (by first | exact ⟨by omega, by omega⟩) (by first | exact ⟨by omega, by omega⟩) (fun h1 => ?_) (fun h1 => ?_)
    · refine vv_iconst F zd_PA_countArcs_82 ?_
      refine vv_icmp_ne (tgt := 89) F zd_PA_countArcs_83 rfl (bZ_rg _) (by decide) (fun h2 => ?_) (fun h2 => ?_)
      · refine vv_iinc (j := 6) (lv' := [(0, .ref y), (1, .int (iI v)), (2, .int (iI (bZ ins))), (3, .int (iI z)), (4, .int (iI i)), (5, .int (iI (cN (B i.toNat) 192 : Int))), (6, .int (iI (j + 1)))]) F zd_PA_countArcs_89 rfl (by decide) [1, 2, 3, 4, 5, 6, 0] rfl ?_
        refine vv_goto (tgt := 54) F zd_PA_countArcs_92 rfl ?_
        exact ih (j + 1) z (by omega) (⟨by omega, by
      have hq : (decide (Nb (g j.toNat).toNat = v) == ins) = false := by rw [decide_eq_false h1]; cases ins <;> first | rfl | exact absurd h2 (by decide)
      rw [hq] at hrk
      simp only [Bool.false_eq_true, if_false, Nat.add_zero] at hrk
      omega⟩)
      · refine vv_iinc (j := 3) (lv' := [(0, .ref y), (1, .int (iI v)), (2, .int (iI (bZ ins))), (3, .int (iI (z + 1))), (4, .int (iI i)), (5, .int (iI (cN (B i.toNat) 192 : Int))), (6, .int (iI j))]) F zd_PA_countArcs_86 rfl (by decide) [1, 2, 3, 0, 4, 5, 6] rfl ?_
        refine vv_iinc (j := 6) (lv' := [(0, .ref y), (1, .int (iI v)), (2, .int (iI (bZ ins))), (3, .int (iI (z + 1))), (4, .int (iI i)), (5, .int (iI (cN (B i.toNat) 192 : Int))), (6, .int (iI (j + 1)))]) F zd_PA_countArcs_89 rfl (by decide) [1, 2, 3, 4, 5, 6, 0] rfl ?_
        refine vv_goto (tgt := 54) F zd_PA_countArcs_92 rfl ?_
        exact ih (j + 1) (z + 1) (by omega) (⟨by omega, by
      have hq : (decide (Nb (g j.toNat).toNat = v) == ins) = true := by rw [decide_eq_false h1]; cases ins <;> first | rfl | exact absurd h2 (by decide)
      rw [hq] at hrk
      simp only [if_true, Nat.add_zero] at hrk
      omega⟩)
    · refine vv_iconst F zd_PA_countArcs_78 ?_
      refine vv_goto (tgt := 83) F zd_PA_countArcs_79 rfl ?_
      refine vv_icmp_ne (tgt := 89) F zd_PA_countArcs_83 rfl (bZ_rg _) (by decide) (fun h3 => ?_) (fun h3 => ?_)
      · refine vv_iinc (j := 6) (lv' := [(0, .ref y), (1, .int (iI v)), (2, .int (iI (bZ ins))), (3, .int (iI z)), (4, .int (iI i)), (5, .int (iI (cN (B i.toNat) 192 : Int))), (6, .int (iI (j + 1)))]) F zd_PA_countArcs_89 rfl (by decide) [1, 2, 3, 4, 5, 6, 0] rfl ?_
        refine vv_goto (tgt := 54) F zd_PA_countArcs_92 rfl ?_
        exact ih (j + 1) z (by omega) (⟨by omega, by
      have hq : (decide (Nb (g j.toNat).toNat = v) == ins) = false := by rw [decide_eq_true h1]; cases ins <;> first | rfl | exact absurd h3 (by decide)
      rw [hq] at hrk
      simp only [Bool.false_eq_true, if_false, Nat.add_zero] at hrk
      omega⟩)
      · refine vv_iinc (j := 3) (lv' := [(0, .ref y), (1, .int (iI v)), (2, .int (iI (bZ ins))), (3, .int (iI (z + 1))), (4, .int (iI i)), (5, .int (iI (cN (B i.toNat) 192 : Int))), (6, .int (iI j))]) F zd_PA_countArcs_86 rfl (by decide) [1, 2, 3, 0, 4, 5, 6] rfl ?_
        refine vv_iinc (j := 6) (lv' := [(0, .ref y), (1, .int (iI v)), (2, .int (iI (bZ ins))), (3, .int (iI (z + 1))), (4, .int (iI i)), (5, .int (iI (cN (B i.toNat) 192 : Int))), (6, .int (iI (j + 1)))]) F zd_PA_countArcs_89 rfl (by decide) [1, 2, 3, 4, 5, 6, 0] rfl ?_
        refine vv_goto (tgt := 54) F zd_PA_countArcs_92 rfl ?_
        exact ih (j + 1) (z + 1) (by omega) (⟨by omega, by
      have hq : (decide (Nb (g j.toNat).toNat = v) == ins) = true := by rw [decide_eq_true h1]; cases ins <;> first | rfl | exact absurd h3 (by decide)
      rw [hq] at hrk
      simp only [if_true, Nat.add_zero] at hrk
      omega⟩)

set_option maxHeartbeats 4000000 in
set_option maxRecDepth 100000 in
theorem lp_PA_ca {p : Program} {l : Launch} {e : Env} {s : State} {m : MethodId} {args : Array Value} {below : List Frame} {meth : Method} {c : Code} {A : Nat → Prop} {Q : State → Prop} {G : vv_G} (F : vv_F p s m args meth c zc_PA_countArcs "ClauseGraph$Parts" "countArcs" (some .int) G A 7) (y : Nat) (wt : Nat) (cn : Nat) (sm : Nat) (gs : Nat) (nb : Nat) (ls : Nat) (x : Nat) (w : Nat) (go : Nat) (ta : Nat) (o : Nat) (tb : Nat) (B : Nat → Nat → Bool) (cs : Int) (mn : Int) (ac : Int) (rk : Bool) (n : Int) (ch : Int) (Nb : Nat → Int) (v : Int) (ins : Bool) (hn : 0 ≤ n ∧ n ≤ 160) (hB : ∀ x y, B x y = true → x < n.toNat ∧ y < n.toNat) (hv : 0 ≤ v ∧ v < 160) (hNb : ∀ j, j < n.toNat → -1 ≤ Nb j ∧ Nb j < 160)
    (k : ∀ (z : Int) (g : Nat → Int), (0 ≤ n ∧ z = (sumN (fun a => if Nb a = v then cN (fun b => B a b && (decide (Nb b = v) == ins)) n.toNat else 0) n.toNat : Int)) → vv_V p l e { frames := 3, cells := 0, slots := 0, locals := 70 } s m args below meth c G A 7 Q 101 [(0, .ref y), (1, .int (iI v)), (2, .int (iI (bZ ins))), (3, .int (iI z)), (4, .int (iI n))] [] [ceO 3 y [.ref wt, .ref cn, .ref sm, .ref gs, .int (iI cs), .ref x, .ref nb, .ref ls, .int (iI mn)], ceI G sm 160 g, ceI G nb 160 Nb, ceO 2 x [.ref w, .ref go, .int (iI ac), .int (iI (bZ rk)), .ref ta, .ref o, .int (iI n), .int (iI ch)], ceO 5 ta [.ref tb], ceJ G tb 480 (tw B)] 0 0)  :
    ∀ (d : Nat) (i : Int) (z : Int) (g : Nat → Int), i + (d : Int) = n → (0 ≤ i ∧ z = (sumN (fun a => if Nb a = v then cN (fun b => B a b && (decide (Nb b = v) == ins)) n.toNat else 0) i.toNat : Int)) → vv_V p l e { frames := 3, cells := 0, slots := 0, locals := 70 } s m args below meth c G A 7 Q 5 [(0, .ref y), (1, .int (iI v)), (2, .int (iI (bZ ins))), (3, .int (iI z)), (4, .int (iI i))] [] [ceO 3 y [.ref wt, .ref cn, .ref sm, .ref gs, .int (iI cs), .ref x, .ref nb, .ref ls, .int (iI mn)], ceI G sm 160 g, ceI G nb 160 Nb, ceO 2 x [.ref w, .ref go, .int (iI ac), .int (iI (bZ rk)), .ref ta, .ref o, .int (iI n), .int (iI ch)], ceO 5 ta [.ref tb], ceJ G tb 480 (tw B)] 0 0 := by
  intro d
  induction d with
  | zero =>
    intro i z g hd hI
    have hz : i = n := by omega
    subst hz
    refine vv_iload F zd_PA_countArcs_5 4 rfl ?_
    refine vv_aload_n F zd_PA_countArcs_7 rfl 0 rfl ?_
    refine vv_get F zd_PA_countArcs_8 zf_PA 0 rfl rfl 5 (by decide) zw_151 rfl ?_
    refine vv_get F zd_PA_countArcs_11 zf_NE 3 rfl rfl 6 (by decide) zw_124 rfl ?_
    refine vv_icmp_ge (tgt := 101) F zd_PA_countArcs_14 rfl (by first | exact ⟨by omega, by omega⟩) (by first | exact ⟨by omega, by omega⟩) (fun _ => ?_) (fun h9 => absurd h9 (by omega))
    exact k z g hI
  | succ d ih =>
    intro i z g hd hI
    have hni := hNb i.toNat (by omega)
    have hsN : sumN (fun a => if Nb a = v then cN (fun b => B a b && (decide (Nb b = v) == ins)) n.toNat else 0) (i + 1).toNat = sumN (fun a => if Nb a = v then cN (fun b => B a b && (decide (Nb b = v) == ins)) n.toNat else 0) i.toNat + (if Nb i.toNat = v then cN (fun b => B i.toNat b && (decide (Nb b = v) == ins)) n.toNat else 0) := by rw [show (i + 1).toNat = i.toNat + 1 by omega]; rfl
    refine vv_iload F zd_PA_countArcs_5 4 rfl ?_
    refine vv_aload_n F zd_PA_countArcs_7 rfl 0 rfl ?_
    refine vv_get F zd_PA_countArcs_8 zf_PA 0 rfl rfl 5 (by decide) zw_151 rfl ?_
    refine vv_get F zd_PA_countArcs_11 zf_NE 3 rfl rfl 6 (by decide) zw_124 rfl ?_
    refine vv_icmp_ge (tgt := 101) F zd_PA_countArcs_14 rfl (by first | exact ⟨by omega, by omega⟩) (by first | exact ⟨by omega, by omega⟩) (fun h9 => absurd h9 (by omega)) (fun _ => ?_)
    refine vv_aload_n F zd_PA_countArcs_17 rfl 0 rfl ?_
    refine vv_get F zd_PA_countArcs_18 zf_PA 0 rfl rfl 6 (by decide) zw_152 rfl ?_
    refine vv_iload F zd_PA_countArcs_21 4 rfl ?_
    refine vv_iald F zd_PA_countArcs_23 2 rfl ⟨by omega, by omega⟩ (by decide) ?_
    refine vv_iload_n F zd_PA_countArcs_24 rfl 1 rfl ?_
    refine vv_icmp_ne (tgt := 48) F zd_PA_countArcs_25 rfl (by first | exact ⟨by omega, by omega⟩) (by first | exact ⟨by omega, by omega⟩) (fun h1 => ?_) (fun h1 => ?_)
    · refine vv_iconst F zd_PA_countArcs_48 ?_
      refine vv_istore (lv' := [(0, .ref y), (1, .int (iI v)), (2, .int (iI (bZ ins))), (3, .int (iI z)), (4, .int (iI i)), (5, .int (iI 0))]) F zd_PA_countArcs_49 (by decide) [1, 2, 3, 4, 5, 0] rfl ?_
      refine vv_iconst F zd_PA_countArcs_51 ?_
      refine vv_istore (lv' := [(0, .ref y), (1, .int (iI v)), (2, .int (iI (bZ ins))), (3, .int (iI z)), (4, .int (iI i)), (5, .int (iI 0)), (6, .int (iI 0))]) F zd_PA_countArcs_52 (by decide) [1, 2, 3, 4, 5, 6, 0] rfl ?_
      refine vv_iload F zd_PA_countArcs_54 6 rfl ?_
      refine vv_iload F zd_PA_countArcs_56 5 rfl ?_
      refine vv_icmp_ge (tgt := 95) F zd_PA_countArcs_58 rfl (by decide) (by decide) (fun _ => ?_) (fun h9 => absurd h9 (by decide))
      refine vv_iinc (j := 4) (lv' := [(0, .ref y), (1, .int (iI v)), (2, .int (iI (bZ ins))), (3, .int (iI z)), (4, .int (iI (i + 1))), (5, .int (iI 0)), (6, .int (iI 0))]) F zd_PA_countArcs_95 rfl (by decide) [1, 2, 3, 4, 0, 5, 6] rfl ?_
      refine vv_goto (tgt := 5) F zd_PA_countArcs_98 rfl ?_
      refine vv_locals (lv' := [(0, .ref y), (1, .int (iI v)), (2, .int (iI (bZ ins))), (3, .int (iI z)), (4, .int (iI (i + 1)))]) [0, 1, 2, 3, 4] rfl ?_
      exact ih (i + 1) z g (by omega) (⟨by omega, by
      rw [hsN, if_neg h1]; omega⟩)
    · refine vv_aload_n F zd_PA_countArcs_28 rfl 0 rfl ?_
      refine vv_get F zd_PA_countArcs_29 zf_PA 0 rfl rfl 5 (by decide) zw_151 rfl ?_
      refine vv_get F zd_PA_countArcs_32 zf_NE 3 rfl rfl 4 (by decide) zw_120 rfl ?_
      refine vv_iload F zd_PA_countArcs_35 4 rfl ?_
      refine vv_aload_n F zd_PA_countArcs_37 rfl 0 rfl ?_
      refine vv_get F zd_PA_countArcs_38 zf_PA 0 rfl rfl 2 (by decide) zw_147 rfl ?_
      refine vv_iconst F zd_PA_countArcs_41 ?_
      refine vv_callV (q0 := 4) (As := [.int (iI i), .ref sm, .int (iI 0)]) (rest := []) (wr := [ceO 3 y [.ref wt, .ref cn, .ref sm, .ref gs, .int (iI cs), .ref x, .ref nb, .ref ls, .int (iI mn)], ceI G nb 160 Nb, ceO 2 x [.ref w, .ref go, .int (iI ac), .int (iI (bZ rk)), .ref ta, .ref o, .int (iI n), .int (iI ch)]]) F (cn_TA_list l G ta tb 480 B i sm g 0 ⟨by omega, by omega⟩ (by omega) ⟨by omega, by have := cN_160 (g := B i.toNat) (fun y hy => by have := hB i.toNat y hy; omega); omega⟩) zm_TA_list ⟨zw_270, zw_271⟩ zw_560 zd_PA_countArcs_42 ⟨by decide, by decide⟩ ⟨by decide, by decide⟩ [4, 5, 1] [0, 2, 3] rfl rfl ⟨rfl, rfl, by decide⟩ rfl rfl rfl rfl (Nat.le_of_ble_eq_true rfl) (fun v9 w9 hp9 => ?_)
      obtain ⟨f2_1, hf1_0, rfl, rfl⟩ := hp9
      refine vv_thenE (ws' := [ceO 3 y [.ref wt, .ref cn, .ref sm, .ref gs, .int (iI cs), .ref x, .ref nb, .ref ls, .int (iI mn)], ceI G sm 160 f2_1, ceI G nb 160 Nb, ceO 2 x [.ref w, .ref go, .int (iI ac), .int (iI (bZ rk)), .ref ta, .ref o, .int (iI n), .int (iI ch)], ceO 5 ta [.ref tb], ceJ G tb 480 (tw B)]) (st' := [.int (iI (0 + (cN (B i.toNat) 192 : Int)))]) (kc' := 0) (ks' := 0) [0, 5, 1, 2, 3, 4] rfl rfl rfl ?_
      refine vv_goto (tgt := 49) F zd_PA_countArcs_45 rfl ?_
      refine vv_ti (Int.zero_add _) ?_
      refine vv_istore (lv' := [(0, .ref y), (1, .int (iI v)), (2, .int (iI (bZ ins))), (3, .int (iI z)), (4, .int (iI i)), (5, .int (iI (cN (B i.toNat) 192 : Int)))]) F zd_PA_countArcs_49 (by decide) [1, 2, 3, 4, 5, 0] rfl ?_
      refine vv_iconst F zd_PA_countArcs_51 ?_
      refine vv_istore (lv' := [(0, .ref y), (1, .int (iI v)), (2, .int (iI (bZ ins))), (3, .int (iI z)), (4, .int (iI i)), (5, .int (iI (cN (B i.toNat) 192 : Int))), (6, .int (iI 0))]) F zd_PA_countArcs_52 (by decide) [1, 2, 3, 4, 5, 6, 0] rfl ?_
      refine lp_PA_ca1 F y wt cn sm gs nb ls x w go ta o tb B cs mn ac rk n ch Nb v ins i z f2_1 _ hn hB hv hNb ⟨by omega, by omega⟩ hf1_0 (fun z9 hJ => ?_) (cN (B i.toNat) 192) 0 z (by omega) ⟨by omega, by rw [show (0 : Int).toNat = 0 from rfl, rk_0]; omega⟩
      refine vv_iinc (j := 4) (lv' := [(0, .ref y), (1, .int (iI v)), (2, .int (iI (bZ ins))), (3, .int (iI z9)), (4, .int (iI (i + 1))), (5, .int (iI (cN (B i.toNat) 192 : Int))), (6, .int (iI (cN (B i.toNat) 192 : Int)))]) F zd_PA_countArcs_95 rfl (by decide) [1, 2, 3, 4, 0, 5, 6] rfl ?_
      refine vv_goto (tgt := 5) F zd_PA_countArcs_98 rfl ?_
      refine vv_locals (lv' := [(0, .ref y), (1, .int (iI v)), (2, .int (iI (bZ ins))), (3, .int (iI z9)), (4, .int (iI (i + 1)))]) [0, 1, 2, 3, 4] rfl ?_
      exact ih (i + 1) z9 f2_1 (by omega) (⟨by omega, by
      have h9 := rk_end (q := fun b => decide (Nb b = v) == ins) (g := B i.toNat) (n := n.toNat) (m := 192) (fun y hy => (hB _ _ hy).2) (by omega)
      have h8 := hJ.2
      rw [show ((cN (B i.toNat) 192 : Int)).toNat = cN (B i.toNat) 192 from rfl, h9] at h8
      rw [hsN, if_pos h1]; omega⟩)

set_option maxHeartbeats 4000000 in
set_option maxRecDepth 100000 in
theorem cn_PA_countArcs (l : Launch) (G : vv_G) (y : Nat) (wt : Nat) (cn : Nat) (sm : Nat) (gs : Nat) (nb : Nat) (ls : Nat) (x : Nat) (w : Nat) (go : Nat) (ta : Nat) (o : Nat) (tb : Nat) (B : Nat → Nat → Bool) (cs : Int) (mn : Int) (ac : Int) (rk : Bool) (n : Int) (ch : Int) (Nb : Nat → Int) (v : Int) (ins : Bool) (g : Nat → Int) (hn : 0 ≤ n ∧ n ≤ 160) (hB : ∀ x y, B x y = true → x < n.toNat ∧ y < n.toNat) (hv : 0 ≤ v ∧ v < 160) (hNb : ∀ j, j < n.toNat → -1 ≤ Nb j ∧ Nb j < 160) :
    vv_C l zy_PA_countArcs zc_PA_countArcs 7 (some .int) { frames := 3, cells := 0, slots := 0, locals := 70 } G [.ref y, .int (iI v), .int (iI (bZ ins))] [ceO 3 y [.ref wt, .ref cn, .ref sm, .ref gs, .int (iI cs), .ref x, .ref nb, .ref ls, .int (iI mn)], ceI G sm 160 g, ceI G nb 160 Nb, ceO 2 x [.ref w, .ref go, .int (iI ac), .int (iI (bZ rk)), .ref ta, .ref o, .int (iI n), .int (iI ch)], ceO 5 ta [.ref tb], ceJ G tb 480 (tw B)] (fun v7 w7 => ∃ (g2 : Nat → Int), v7 = some (.int (iI (aArcs B n.toNat Nb v ins : Int))) ∧ w7 = [ceO 3 y [.ref wt, .ref cn, .ref sm, .ref gs, .int (iI cs), .ref x, .ref nb, .ref ls, .int (iI mn)], ceI G sm 160 g2, ceI G nb 160 Nb, ceO 2 x [.ref w, .ref go, .int (iI ac), .int (iI (bZ rk)), .ref ta, .ref o, .int (iI n), .int (iI ch)], ceO 5 ta [.ref tb], ceJ G tb 480 (tw B)]) := by
  refine vv_met (by decide +kernel) (Nat.le_of_ble_eq_true rfl) rfl ?_
  intro p e s m args below meth c A F
  refine vv_iconst F zd_PA_countArcs_0 ?_
  refine vv_istore_n (lv' := [(0, .ref y), (1, .int (iI v)), (2, .int (iI (bZ ins))), (3, .int (iI 0))]) F zd_PA_countArcs_1 rfl (by decide) [1, 2, 3, 0] rfl ?_
  refine vv_iconst F zd_PA_countArcs_2 ?_
  refine vv_istore (lv' := [(0, .ref y), (1, .int (iI v)), (2, .int (iI (bZ ins))), (3, .int (iI 0)), (4, .int (iI 0))]) F zd_PA_countArcs_3 (by decide) [1, 2, 3, 4, 0] rfl ?_
  refine lp_PA_ca F y wt cn sm gs nb ls x w go ta o tb B cs mn ac rk n ch Nb v ins hn hB hv hNb (fun z9 g9 hI => ?_) n.toNat 0 0 g (by omega) ⟨by omega, rfl⟩
  obtain rfl := hI.2
  refine vv_iload_n F zd_PA_countArcs_101 rfl 3 rfl ?_
  exact vv_iret F zd_PA_countArcs_102 ⟨g9, rfl, rfl⟩

set_option maxHeartbeats 4000000 in
set_option maxRecDepth 100000 in
theorem cn_PA_arcsInside (l : Launch) (G : vv_G) (y : Nat) (wt : Nat) (cn : Nat) (sm : Nat) (gs : Nat) (nb : Nat) (ls : Nat) (x : Nat) (w : Nat) (go : Nat) (ta : Nat) (o : Nat) (tb : Nat) (B : Nat → Nat → Bool) (cs : Int) (mn : Int) (ac : Int) (rk : Bool) (n : Int) (ch : Int) (Nb : Nat → Int) (v : Int) (g : Nat → Int) (hn : 0 ≤ n ∧ n ≤ 160) (hB : ∀ x y, B x y = true → x < n.toNat ∧ y < n.toNat) (hv : 0 ≤ v ∧ v < 160) (hNb : ∀ j, j < n.toNat → -1 ≤ Nb j ∧ Nb j < 160) :
    vv_C l zy_PA_arcsInside zc_PA_arcsInside 2 (some .int) { frames := 4, cells := 0, slots := 0, locals := 96 } G [.ref y, .int (iI v)] [ceO 3 y [.ref wt, .ref cn, .ref sm, .ref gs, .int (iI cs), .ref x, .ref nb, .ref ls, .int (iI mn)], ceI G sm 160 g, ceI G nb 160 Nb, ceO 2 x [.ref w, .ref go, .int (iI ac), .int (iI (bZ rk)), .ref ta, .ref o, .int (iI n), .int (iI ch)], ceO 5 ta [.ref tb], ceJ G tb 480 (tw B)] (fun v7 w7 => ∃ (g2 : Nat → Int), v7 = some (.int (iI (aArcs B n.toNat Nb v true : Int))) ∧ w7 = [ceO 3 y [.ref wt, .ref cn, .ref sm, .ref gs, .int (iI cs), .ref x, .ref nb, .ref ls, .int (iI mn)], ceI G sm 160 g2, ceI G nb 160 Nb, ceO 2 x [.ref w, .ref go, .int (iI ac), .int (iI (bZ rk)), .ref ta, .ref o, .int (iI n), .int (iI ch)], ceO 5 ta [.ref tb], ceJ G tb 480 (tw B)]) := by
  refine vv_met (by decide +kernel) (Nat.le_of_ble_eq_true rfl) rfl ?_
  intro p e s m args below meth c A F
  refine vv_aload_n F zd_PA_arcsInside_0 rfl 0 rfl ?_
  refine vv_iload_n F zd_PA_arcsInside_1 rfl 1 rfl ?_
  refine vv_iconst F zd_PA_arcsInside_2 ?_
  refine vv_ti (show (1 : Int) = bZ true from rfl) ?_
  refine vv_callV (q0 := 0) (As := [.int (iI v), .int (iI (bZ true))]) (rest := []) (wr := []) F (cn_PA_countArcs l G y wt cn sm gs nb ls x w go ta o tb B cs mn ac rk n ch Nb v true g ⟨by omega, by omega⟩ hB hv hNb) zm_PA_countArcs ⟨zw_558, zs_PA_countArcs⟩ zw_556 zd_PA_arcsInside_3 ⟨by decide, by decide⟩ ⟨by decide, by decide⟩ [0, 1, 2, 3, 4, 5] [] rfl rfl ⟨rfl, rfl, by decide⟩ rfl rfl rfl rfl (Nat.le_of_ble_eq_true rfl) (fun v9 w9 hp9 => ?_)
  obtain ⟨g2_1, rfl, rfl⟩ := hp9
  refine vv_thenE (ws' := [ceO 3 y [.ref wt, .ref cn, .ref sm, .ref gs, .int (iI cs), .ref x, .ref nb, .ref ls, .int (iI mn)], ceI G sm 160 g2_1, ceI G nb 160 Nb, ceO 2 x [.ref w, .ref go, .int (iI ac), .int (iI (bZ rk)), .ref ta, .ref o, .int (iI n), .int (iI ch)], ceO 5 ta [.ref tb], ceJ G tb 480 (tw B)]) (st' := [.int (iI (aArcs B n.toNat Nb v true : Int))]) (kc' := 0) (ks' := 0) [0, 1, 2, 3, 4, 5] rfl rfl rfl ?_
  exact vv_iret F zd_PA_arcsInside_6 ⟨_, rfl, rfl⟩

set_option maxHeartbeats 4000000 in
set_option maxRecDepth 100000 in
theorem cn_PA_arcsOutward (l : Launch) (G : vv_G) (y : Nat) (wt : Nat) (cn : Nat) (sm : Nat) (gs : Nat) (nb : Nat) (ls : Nat) (x : Nat) (w : Nat) (go : Nat) (ta : Nat) (o : Nat) (tb : Nat) (B : Nat → Nat → Bool) (cs : Int) (mn : Int) (ac : Int) (rk : Bool) (n : Int) (ch : Int) (Nb : Nat → Int) (v : Int) (g : Nat → Int) (hn : 0 ≤ n ∧ n ≤ 160) (hB : ∀ x y, B x y = true → x < n.toNat ∧ y < n.toNat) (hv : 0 ≤ v ∧ v < 160) (hNb : ∀ j, j < n.toNat → -1 ≤ Nb j ∧ Nb j < 160) :
    vv_C l zy_PA_arcsOutward zc_PA_arcsOutward 2 (some .int) { frames := 4, cells := 0, slots := 0, locals := 96 } G [.ref y, .int (iI v)] [ceO 3 y [.ref wt, .ref cn, .ref sm, .ref gs, .int (iI cs), .ref x, .ref nb, .ref ls, .int (iI mn)], ceI G sm 160 g, ceI G nb 160 Nb, ceO 2 x [.ref w, .ref go, .int (iI ac), .int (iI (bZ rk)), .ref ta, .ref o, .int (iI n), .int (iI ch)], ceO 5 ta [.ref tb], ceJ G tb 480 (tw B)] (fun v7 w7 => ∃ (g2 : Nat → Int), v7 = some (.int (iI (aArcs B n.toNat Nb v false : Int))) ∧ w7 = [ceO 3 y [.ref wt, .ref cn, .ref sm, .ref gs, .int (iI cs), .ref x, .ref nb, .ref ls, .int (iI mn)], ceI G sm 160 g2, ceI G nb 160 Nb, ceO 2 x [.ref w, .ref go, .int (iI ac), .int (iI (bZ rk)), .ref ta, .ref o, .int (iI n), .int (iI ch)], ceO 5 ta [.ref tb], ceJ G tb 480 (tw B)]) := by
  refine vv_met (by decide +kernel) (Nat.le_of_ble_eq_true rfl) rfl ?_
  intro p e s m args below meth c A F
  refine vv_aload_n F zd_PA_arcsOutward_0 rfl 0 rfl ?_
  refine vv_iload_n F zd_PA_arcsOutward_1 rfl 1 rfl ?_
  refine vv_iconst F zd_PA_arcsOutward_2 ?_
  refine vv_ti (show (0 : Int) = bZ false from rfl) ?_
  refine vv_callV (q0 := 0) (As := [.int (iI v), .int (iI (bZ false))]) (rest := []) (wr := []) F (cn_PA_countArcs l G y wt cn sm gs nb ls x w go ta o tb B cs mn ac rk n ch Nb v false g ⟨by omega, by omega⟩ hB hv hNb) zm_PA_countArcs ⟨zw_558, zs_PA_countArcs⟩ zw_556 zd_PA_arcsOutward_3 ⟨by decide, by decide⟩ ⟨by decide, by decide⟩ [0, 1, 2, 3, 4, 5] [] rfl rfl ⟨rfl, rfl, by decide⟩ rfl rfl rfl rfl (Nat.le_of_ble_eq_true rfl) (fun v9 w9 hp9 => ?_)
  obtain ⟨g2_1, rfl, rfl⟩ := hp9
  refine vv_thenE (ws' := [ceO 3 y [.ref wt, .ref cn, .ref sm, .ref gs, .int (iI cs), .ref x, .ref nb, .ref ls, .int (iI mn)], ceI G sm 160 g2_1, ceI G nb 160 Nb, ceO 2 x [.ref w, .ref go, .int (iI ac), .int (iI (bZ rk)), .ref ta, .ref o, .int (iI n), .int (iI ch)], ceO 5 ta [.ref tb], ceJ G tb 480 (tw B)]) (st' := [.int (iI (aArcs B n.toNat Nb v false : Int))]) (kc' := 0) (ks' := 0) [0, 1, 2, 3, 4, 5] rfl rfl rfl ?_
  exact vv_iret F zd_PA_arcsOutward_6 ⟨_, rfl, rfl⟩

set_option maxHeartbeats 4000000 in
set_option maxRecDepth 100000 in
theorem lp_PA_fg1 {p : Program} {l : Launch} {e : Env} {s : State} {m : MethodId} {args : Array Value} {below : List Frame} {meth : Method} {c : Code} {A : Nat → Prop} {Q : State → Prop} {G : vv_G} (F : vv_F p s m args meth c zc_PA_findGoals "ClauseGraph$Parts" "findGoals" none G A 6) (y : Nat) (wt : Nat) (cn : Nat) (sm : Nat) (gs : Nat) (nb : Nat) (ls : Nat) (gb : Nat) (x : Nat) (w : Nat) (go : Nat) (ta : Nat) (o : Nat) (tb : Nat) (B : Nat → Nat → Bool) (cs : Int) (mn : Int) (ac : Int) (rk : Bool) (n : Int) (ch : Int) (Nb : Nat → Int) (Ls : Nat → Int) (v : Int) (i : Int) (g : Nat → Int) (g0 : Nat → Int) (hn : 0 ≤ n ∧ n ≤ 160) (hB : ∀ x y, B x y = true → x < n.toNat ∧ y < n.toNat) (hv : 0 ≤ v ∧ v < 160) (hNb : ∀ j, j < n.toNat → 0 ≤ Nb j ∧ Nb j < mn) (hm : 0 ≤ mn ∧ mn ≤ 160) (hLs : ∀ c : Nat, (c : Int) < mn → 0 ≤ Ls c ∧ Ls c < 160) (hi : 0 ≤ i ∧ i < n) (hiv : Nb i.toNat = v) (hl : lsd (B i.toNat) 192 0 g0 g)
    (k : ∀ (Z : Nat → Nat → Bool), (0 ≤ (cN (B i.toNat) 192 : Int) ∧ gset B Nb Ls v (gP B i.toNat (cN (B i.toNat) 192 : Int).toNat) Z) → vv_V p l e { frames := 3, cells := 0, slots := 0, locals := 70 } s m args below meth c G A 6 Q 101 [(0, .ref y), (1, .int (iI v)), (2, .int (iI i)), (3, .int (iI (cN (B i.toNat) 192 : Int))), (4, .int (iI (cN (B i.toNat) 192 : Int)))] [] [ceO 3 y [.ref wt, .ref cn, .ref sm, .ref gs, .int (iI cs), .ref x, .ref nb, .ref ls, .int (iI mn)], ceI G sm 160 g, ceO 5 gs [.ref gb], ceJ G gb 3 (tw Z), ceI G nb 160 Nb, ceI G ls 160 Ls, ceO 2 x [.ref w, .ref go, .int (iI ac), .int (iI (bZ rk)), .ref ta, .ref o, .int (iI n), .int (iI ch)], ceO 5 ta [.ref tb], ceJ G tb 480 (tw B)] 0 0)  :
    ∀ (d : Nat) (j : Int) (Z : Nat → Nat → Bool), j + (d : Int) = (cN (B i.toNat) 192 : Int) → (0 ≤ j ∧ gset B Nb Ls v (gP B i.toNat j.toNat) Z) → vv_V p l e { frames := 3, cells := 0, slots := 0, locals := 70 } s m args below meth c G A 6 Q 54 [(0, .ref y), (1, .int (iI v)), (2, .int (iI i)), (3, .int (iI (cN (B i.toNat) 192 : Int))), (4, .int (iI j))] [] [ceO 3 y [.ref wt, .ref cn, .ref sm, .ref gs, .int (iI cs), .ref x, .ref nb, .ref ls, .int (iI mn)], ceI G sm 160 g, ceO 5 gs [.ref gb], ceJ G gb 3 (tw Z), ceI G nb 160 Nb, ceI G ls 160 Ls, ceO 2 x [.ref w, .ref go, .int (iI ac), .int (iI (bZ rk)), .ref ta, .ref o, .int (iI n), .int (iI ch)], ceO 5 ta [.ref tb], ceJ G tb 480 (tw B)] 0 0 := by
  intro d
  induction d with
  | zero =>
    intro j Z hd hI
    have hz : j = (cN (B i.toNat) 192 : Int) := by omega
    subst hz
    have hb := cN_160 (g := B i.toNat) (fun y hy => by have := hB i.toNat y hy; omega)
    refine vv_iload F zd_PA_findGoals_54 4 rfl ?_
    refine vv_iload_n F zd_PA_findGoals_56 rfl 3 rfl ?_
    refine vv_icmp_ge (tgt := 101) F zd_PA_findGoals_57 rfl (by first | exact ⟨by omega, by omega⟩) (by first | exact ⟨by omega, by omega⟩) (fun _ => ?_) (fun h9 => absurd h9 (by omega))
    exact k Z hI
  | succ d ih =>
    intro j Z hd hI
    have wB : wfB B := fun x y h => by have := hB x y h; omega
    have hb := cN_160 (fun y hy => (wB i.toNat y hy).2)
    obtain ⟨p9, hp1, hp2, hp3, hp4⟩ := lsd_at0 hl (i := j.toNat) (by omega)
    have hp5 := hB i.toNat p9 hp2
    have hp6 := hNb p9 hp5.2
    have hp7 : (g j.toNat).toNat = p9 := by omega
    rw [← hp7] at hp6
    have hp8 := hLs (Nb (g j.toNat).toNat).toNat (by omega)
    refine vv_iload F zd_PA_findGoals_54 4 rfl ?_
    refine vv_iload_n F zd_PA_findGoals_56 rfl 3 rfl ?_
    refine vv_icmp_ge (tgt := 101) F zd_PA_findGoals_57 rfl (by first | exact ⟨by omega, by omega⟩) (by first | exact ⟨by omega, by omega⟩) (fun h9 => absurd h9 (by omega)) (fun _ => ?_)
    refine vv_aload_n F zd_PA_findGoals_60 rfl 0 rfl ?_
    refine vv_get F zd_PA_findGoals_61 zf_PA 0 rfl rfl 6 (by decide) zw_152 rfl ?_
    refine vv_aload_n F zd_PA_findGoals_64 rfl 0 rfl ?_
    refine vv_get F zd_PA_findGoals_65 zf_PA 0 rfl rfl 2 (by decide) zw_147 rfl ?_
    refine vv_iload F zd_PA_findGoals_68 4 rfl ?_
    refine vv_iald F zd_PA_findGoals_70 1 rfl ⟨by omega, by omega⟩ (by decide) ?_
    refine vv_iald F zd_PA_findGoals_71 4 rfl ⟨by omega, by omega⟩ (by decide) ?_
    refine vv_istore (lv' := [(0, .ref y), (1, .int (iI v)), (2, .int (iI i)), (3, .int (iI (cN (B i.toNat) 192 : Int))), (4, .int (iI j)), (5, .int (iI (Nb (g j.toNat).toNat)))]) F zd_PA_findGoals_72 (by decide) [1, 2, 3, 4, 5, 0] rfl ?_
    refine vv_iload F zd_PA_findGoals_74 5 rfl ?_
    refine vv_iload_n F zd_PA_findGoals_76 rfl 1 rfl ?_
    refine vv_icmp_eq (tgt := 95) F zd_PA_findGoals_77 rfl (by first | exact ⟨by omega, by omega⟩) (by first | exact ⟨by omega, by omega⟩) (fun h1 => ?_) (fun h1 => ?_)
    · refine vv_iinc (j := 4) (lv' := [(0, .ref y), (1, .int (iI v)), (2, .int (iI i)), (3, .int (iI (cN (B i.toNat) 192 : Int))), (4, .int (iI (j + 1))), (5, .int (iI (Nb (g j.toNat).toNat)))]) F zd_PA_findGoals_95 rfl (by decide) [1, 2, 3, 4, 0, 5] rfl ?_
      refine vv_goto (tgt := 54) F zd_PA_findGoals_98 rfl ?_
      refine vv_locals (lv' := [(0, .ref y), (1, .int (iI v)), (2, .int (iI i)), (3, .int (iI (cN (B i.toNat) 192 : Int))), (4, .int (iI (j + 1)))]) [0, 1, 2, 3, 4] rfl ?_
      exact ih (j + 1) Z (by omega) (⟨by omega, by
      rw [show (j + 1).toNat = j.toNat + 1 by omega]
      exact gset_skip hI.2 hp2 hp3 (by rw [← hp7]; exact h1)⟩)
    · refine vv_aload_n F zd_PA_findGoals_80 rfl 0 rfl ?_
      refine vv_get F zd_PA_findGoals_81 zf_PA 0 rfl rfl 3 (by decide) zw_148 rfl ?_
      refine vv_iconst F zd_PA_findGoals_84 ?_
      refine vv_aload_n F zd_PA_findGoals_85 rfl 0 rfl ?_
      refine vv_get F zd_PA_findGoals_86 zf_PA 0 rfl rfl 7 (by decide) zw_154 rfl ?_
      refine vv_iload F zd_PA_findGoals_89 5 rfl ?_
      refine vv_iald F zd_PA_findGoals_91 5 rfl ⟨by omega, by omega⟩ (by decide) ?_
      refine vv_callV (q0 := 2) (As := [.int (iI 0), .int (iI (Ls (Nb (g j.toNat).toNat).toNat))]) (rest := []) (wr := [ceO 3 y [.ref wt, .ref cn, .ref sm, .ref gs, .int (iI cs), .ref x, .ref nb, .ref ls, .int (iI mn)], ceI G sm 160 g, ceI G nb 160 Nb, ceI G ls 160 Ls, ceO 2 x [.ref w, .ref go, .int (iI ac), .int (iI (bZ rk)), .ref ta, .ref o, .int (iI n), .int (iI ch)], ceO 5 ta [.ref tb], ceJ G tb 480 (tw B)]) F (cn_TA_put l G gs gb 3 Z 0 (Ls (Nb (g j.toNat).toNat).toNat) ⟨by omega, by omega⟩ ⟨by omega, by omega⟩ (by omega)) zm_TA_put ⟨zw_109, zw_110⟩ zw_574 zd_PA_findGoals_92 ⟨by decide, by decide⟩ ⟨by decide, by decide⟩ [2, 3] [0, 1, 4, 5, 6, 7, 8] rfl rfl ⟨rfl, rfl, by decide⟩ rfl rfl rfl rfl (Nat.le_of_ble_eq_true rfl) (vv_then (ws' := [ceO 3 y [.ref wt, .ref cn, .ref sm, .ref gs, .int (iI cs), .ref x, .ref nb, .ref ls, .int (iI mn)], ceI G sm 160 g, ceO 5 gs [.ref gb], ceJ G gb 3 (tw (bP Z 0 (Ls (Nb (g j.toNat).toNat).toNat).toNat true)), ceI G nb 160 Nb, ceI G ls 160 Ls, ceO 2 x [.ref w, .ref go, .int (iI ac), .int (iI (bZ rk)), .ref ta, .ref o, .int (iI n), .int (iI ch)], ceO 5 ta [.ref tb], ceJ G tb 480 (tw B)]) (st' := []) [0, 1, 7, 8, 2, 3, 4, 5, 6] rfl rfl rfl ?_)
      refine vv_iinc (j := 4) (lv' := [(0, .ref y), (1, .int (iI v)), (2, .int (iI i)), (3, .int (iI (cN (B i.toNat) 192 : Int))), (4, .int (iI (j + 1))), (5, .int (iI (Nb (g j.toNat).toNat)))]) F zd_PA_findGoals_95 rfl (by decide) [1, 2, 3, 4, 0, 5] rfl ?_
      refine vv_goto (tgt := 54) F zd_PA_findGoals_98 rfl ?_
      refine vv_locals (lv' := [(0, .ref y), (1, .int (iI v)), (2, .int (iI i)), (3, .int (iI (cN (B i.toNat) 192 : Int))), (4, .int (iI (j + 1)))]) [0, 1, 2, 3, 4] rfl ?_
      exact ih (j + 1) (bP Z 0 (Ls (Nb (g j.toNat).toNat).toNat).toNat true) (by omega) (⟨by omega, by
      rw [show (j + 1).toNat = j.toNat + 1 by omega]
      exact gset_put hI.2 hp2 hp3 hiv (by rw [← hp7]; exact h1) (by rw [← hp7]; omega)⟩)

set_option maxHeartbeats 4000000 in
set_option maxRecDepth 100000 in
theorem lp_PA_fg {p : Program} {l : Launch} {e : Env} {s : State} {m : MethodId} {args : Array Value} {below : List Frame} {meth : Method} {c : Code} {A : Nat → Prop} {Q : State → Prop} {G : vv_G} (F : vv_F p s m args meth c zc_PA_findGoals "ClauseGraph$Parts" "findGoals" none G A 6) (y : Nat) (wt : Nat) (cn : Nat) (sm : Nat) (gs : Nat) (nb : Nat) (ls : Nat) (gb : Nat) (x : Nat) (w : Nat) (go : Nat) (ta : Nat) (o : Nat) (tb : Nat) (B : Nat → Nat → Bool) (cs : Int) (mn : Int) (ac : Int) (rk : Bool) (n : Int) (ch : Int) (Nb : Nat → Int) (Ls : Nat → Int) (v : Int) (hn : 0 ≤ n ∧ n ≤ 160) (hB : ∀ x y, B x y = true → x < n.toNat ∧ y < n.toNat) (hv : 0 ≤ v ∧ v < 160) (hNb : ∀ j, j < n.toNat → 0 ≤ Nb j ∧ Nb j < mn) (hm : 0 ≤ mn ∧ mn ≤ 160) (hLs : ∀ c : Nat, (c : Int) < mn → 0 ≤ Ls c ∧ Ls c < 160)
    (k : ∀ (g : Nat → Int) (Z : Nat → Nat → Bool), (0 ≤ n ∧ gset B Nb Ls v (gP B n.toNat 0) Z) → vv_V p l e { frames := 3, cells := 0, slots := 0, locals := 70 } s m args below meth c G A 6 Q 107 [(0, .ref y), (1, .int (iI v)), (2, .int (iI n))] [] [ceO 3 y [.ref wt, .ref cn, .ref sm, .ref gs, .int (iI cs), .ref x, .ref nb, .ref ls, .int (iI mn)], ceI G sm 160 g, ceO 5 gs [.ref gb], ceJ G gb 3 (tw Z), ceI G nb 160 Nb, ceI G ls 160 Ls, ceO 2 x [.ref w, .ref go, .int (iI ac), .int (iI (bZ rk)), .ref ta, .ref o, .int (iI n), .int (iI ch)], ceO 5 ta [.ref tb], ceJ G tb 480 (tw B)] 0 0)  :
    ∀ (d : Nat) (i : Int) (g : Nat → Int) (Z : Nat → Nat → Bool), i + (d : Int) = n → (0 ≤ i ∧ gset B Nb Ls v (gP B i.toNat 0) Z) → vv_V p l e { frames := 3, cells := 0, slots := 0, locals := 70 } s m args below meth c G A 6 Q 9 [(0, .ref y), (1, .int (iI v)), (2, .int (iI i))] [] [ceO 3 y [.ref wt, .ref cn, .ref sm, .ref gs, .int (iI cs), .ref x, .ref nb, .ref ls, .int (iI mn)], ceI G sm 160 g, ceO 5 gs [.ref gb], ceJ G gb 3 (tw Z), ceI G nb 160 Nb, ceI G ls 160 Ls, ceO 2 x [.ref w, .ref go, .int (iI ac), .int (iI (bZ rk)), .ref ta, .ref o, .int (iI n), .int (iI ch)], ceO 5 ta [.ref tb], ceJ G tb 480 (tw B)] 0 0 := by
  intro d
  induction d with
  | zero =>
    intro i g Z hd hI
    have hz : i = n := by omega
    subst hz
    refine vv_iload_n F zd_PA_findGoals_9 rfl 2 rfl ?_
    refine vv_aload_n F zd_PA_findGoals_10 rfl 0 rfl ?_
    refine vv_get F zd_PA_findGoals_11 zf_PA 0 rfl rfl 5 (by decide) zw_151 rfl ?_
    refine vv_get F zd_PA_findGoals_14 zf_NE 6 rfl rfl 6 (by decide) zw_124 rfl ?_
    refine vv_icmp_ge (tgt := 107) F zd_PA_findGoals_17 rfl (by first | exact ⟨by omega, by omega⟩) (by first | exact ⟨by omega, by omega⟩) (fun _ => ?_) (fun h9 => absurd h9 (by omega))
    exact k g Z hI
  | succ d ih =>
    intro i g Z hd hI
    have hni := hNb i.toNat (by omega)
    refine vv_iload_n F zd_PA_findGoals_9 rfl 2 rfl ?_
    refine vv_aload_n F zd_PA_findGoals_10 rfl 0 rfl ?_
    refine vv_get F zd_PA_findGoals_11 zf_PA 0 rfl rfl 5 (by decide) zw_151 rfl ?_
    refine vv_get F zd_PA_findGoals_14 zf_NE 6 rfl rfl 6 (by decide) zw_124 rfl ?_
    refine vv_icmp_ge (tgt := 107) F zd_PA_findGoals_17 rfl (by first | exact ⟨by omega, by omega⟩) (by first | exact ⟨by omega, by omega⟩) (fun h9 => absurd h9 (by omega)) (fun _ => ?_)
    refine vv_aload_n F zd_PA_findGoals_20 rfl 0 rfl ?_
    refine vv_get F zd_PA_findGoals_21 zf_PA 0 rfl rfl 6 (by decide) zw_152 rfl ?_
    refine vv_iload_n F zd_PA_findGoals_24 rfl 2 rfl ?_
    refine vv_iald F zd_PA_findGoals_25 4 rfl ⟨by omega, by omega⟩ (by decide) ?_
    refine vv_iload_n F zd_PA_findGoals_26 rfl 1 rfl ?_
    refine vv_icmp_ne (tgt := 49) F zd_PA_findGoals_27 rfl (by first | exact ⟨by omega, by omega⟩) (by first | exact ⟨by omega, by omega⟩) (fun h1 => ?_) (fun h1 => ?_)
    · refine vv_iconst F zd_PA_findGoals_49 ?_
      refine vv_istore_n (lv' := [(0, .ref y), (1, .int (iI v)), (2, .int (iI i)), (3, .int (iI 0))]) F zd_PA_findGoals_50 rfl (by decide) [1, 2, 3, 0] rfl ?_
      refine vv_iconst F zd_PA_findGoals_51 ?_
      refine vv_istore (lv' := [(0, .ref y), (1, .int (iI v)), (2, .int (iI i)), (3, .int (iI 0)), (4, .int (iI 0))]) F zd_PA_findGoals_52 (by decide) [1, 2, 3, 4, 0] rfl ?_
      refine vv_iload F zd_PA_findGoals_54 4 rfl ?_
      refine vv_iload_n F zd_PA_findGoals_56 rfl 3 rfl ?_
      refine vv_icmp_ge (tgt := 101) F zd_PA_findGoals_57 rfl (by decide) (by decide) (fun _ => ?_) (fun h9 => absurd h9 (by decide))
      refine vv_iinc (j := 2) (lv' := [(0, .ref y), (1, .int (iI v)), (2, .int (iI (i + 1))), (3, .int (iI 0)), (4, .int (iI 0))]) F zd_PA_findGoals_101 rfl (by decide) [1, 2, 0, 3, 4] rfl ?_
      refine vv_goto (tgt := 9) F zd_PA_findGoals_104 rfl ?_
      refine vv_locals (lv' := [(0, .ref y), (1, .int (iI v)), (2, .int (iI (i + 1)))]) [0, 1, 2] rfl ?_
      exact ih (i + 1) g Z (by omega) (⟨by omega, by rw [show (i + 1).toNat = i.toNat + 1 by omega]; exact gset_node hI.2 h1⟩)
    · refine vv_aload_n F zd_PA_findGoals_30 rfl 0 rfl ?_
      refine vv_get F zd_PA_findGoals_31 zf_PA 0 rfl rfl 5 (by decide) zw_151 rfl ?_
      refine vv_get F zd_PA_findGoals_34 zf_NE 6 rfl rfl 4 (by decide) zw_120 rfl ?_
      refine vv_iload_n F zd_PA_findGoals_37 rfl 2 rfl ?_
      refine vv_aload_n F zd_PA_findGoals_38 rfl 0 rfl ?_
      refine vv_get F zd_PA_findGoals_39 zf_PA 0 rfl rfl 2 (by decide) zw_147 rfl ?_
      refine vv_iconst F zd_PA_findGoals_42 ?_
      refine vv_callV (q0 := 7) (As := [.int (iI i), .ref sm, .int (iI 0)]) (rest := []) (wr := [ceO 3 y [.ref wt, .ref cn, .ref sm, .ref gs, .int (iI cs), .ref x, .ref nb, .ref ls, .int (iI mn)], ceO 5 gs [.ref gb], ceJ G gb 3 (tw Z), ceI G nb 160 Nb, ceI G ls 160 Ls, ceO 2 x [.ref w, .ref go, .int (iI ac), .int (iI (bZ rk)), .ref ta, .ref o, .int (iI n), .int (iI ch)]]) F (cn_TA_list l G ta tb 480 B i sm g 0 ⟨by omega, by omega⟩ (by omega) ⟨by omega, by have := cN_160 (g := B i.toNat) (fun y hy => by have := hB i.toNat y hy; omega); omega⟩) zm_TA_list ⟨zw_270, zw_271⟩ zw_560 zd_PA_findGoals_43 ⟨by decide, by decide⟩ ⟨by decide, by decide⟩ [7, 8, 1] [0, 2, 3, 4, 5, 6] rfl rfl ⟨rfl, rfl, by decide⟩ rfl rfl rfl rfl (Nat.le_of_ble_eq_true rfl) (fun v9 w9 hp9 => ?_)
      obtain ⟨f2_1, hf1_0, rfl, rfl⟩ := hp9
      refine vv_thenE (ws' := [ceO 3 y [.ref wt, .ref cn, .ref sm, .ref gs, .int (iI cs), .ref x, .ref nb, .ref ls, .int (iI mn)], ceI G sm 160 f2_1, ceO 5 gs [.ref gb], ceJ G gb 3 (tw Z), ceI G nb 160 Nb, ceI G ls 160 Ls, ceO 2 x [.ref w, .ref go, .int (iI ac), .int (iI (bZ rk)), .ref ta, .ref o, .int (iI n), .int (iI ch)], ceO 5 ta [.ref tb], ceJ G tb 480 (tw B)]) (st' := [.int (iI (0 + (cN (B i.toNat) 192 : Int)))]) (kc' := 0) (ks' := 0) [0, 8, 1, 2, 3, 4, 5, 6, 7] rfl rfl rfl ?_
      refine vv_goto (tgt := 50) F zd_PA_findGoals_46 rfl ?_
      refine vv_ti (Int.zero_add _) ?_
      refine vv_istore_n (lv' := [(0, .ref y), (1, .int (iI v)), (2, .int (iI i)), (3, .int (iI (cN (B i.toNat) 192 : Int)))]) F zd_PA_findGoals_50 rfl (by decide) [1, 2, 3, 0] rfl ?_
      refine vv_iconst F zd_PA_findGoals_51 ?_
      refine vv_istore (lv' := [(0, .ref y), (1, .int (iI v)), (2, .int (iI i)), (3, .int (iI (cN (B i.toNat) 192 : Int))), (4, .int (iI 0))]) F zd_PA_findGoals_52 (by decide) [1, 2, 3, 4, 0] rfl ?_
      refine lp_PA_fg1 F y wt cn sm gs nb ls gb x w go ta o tb B cs mn ac rk n ch Nb Ls v i f2_1 _ hn hB hv hNb hm hLs ⟨by omega, by omega⟩ h1 hf1_0 (fun Z9 hJ => ?_) (cN (B i.toNat) 192) 0 Z (by omega) ⟨by omega, hI.2⟩
      refine vv_iinc (j := 2) (lv' := [(0, .ref y), (1, .int (iI v)), (2, .int (iI (i + 1))), (3, .int (iI (cN (B i.toNat) 192 : Int))), (4, .int (iI (cN (B i.toNat) 192 : Int)))]) F zd_PA_findGoals_101 rfl (by decide) [1, 2, 0, 3, 4] rfl ?_
      refine vv_goto (tgt := 9) F zd_PA_findGoals_104 rfl ?_
      refine vv_locals (lv' := [(0, .ref y), (1, .int (iI v)), (2, .int (iI (i + 1)))]) [0, 1, 2] rfl ?_
      exact ih (i + 1) f2_1 Z9 (by omega) (⟨by omega, by
      have wB : wfB B := fun x y h => by have := hB x y h; omega
      rw [show (i + 1).toNat = i.toNat + 1 by omega]; exact gset_next wB hJ.2⟩)

set_option maxHeartbeats 4000000 in
set_option maxRecDepth 100000 in
theorem cn_PA_findGoals (l : Launch) (G : vv_G) (y : Nat) (wt : Nat) (cn : Nat) (sm : Nat) (gs : Nat) (nb : Nat) (ls : Nat) (gb : Nat) (x : Nat) (w : Nat) (go : Nat) (ta : Nat) (o : Nat) (tb : Nat) (B : Nat → Nat → Bool) (cs : Int) (mn : Int) (ac : Int) (rk : Bool) (n : Int) (ch : Int) (Nb : Nat → Int) (Ls : Nat → Int) (v : Int) (g : Nat → Int) (Z : Nat → Nat → Bool) (hn : 0 ≤ n ∧ n ≤ 160) (hB : ∀ x y, B x y = true → x < n.toNat ∧ y < n.toNat) (hv : 0 ≤ v ∧ v < 160) (hNb : ∀ j, j < n.toNat → 0 ≤ Nb j ∧ Nb j < mn) (hm : 0 ≤ mn ∧ mn ≤ 160) (hLs : ∀ c : Nat, (c : Int) < mn → 0 ≤ Ls c ∧ Ls c < 160) :
    vv_C l zy_PA_findGoals zc_PA_findGoals 6 none { frames := 3, cells := 0, slots := 0, locals := 70 } G [.ref y, .int (iI v)] [ceO 3 y [.ref wt, .ref cn, .ref sm, .ref gs, .int (iI cs), .ref x, .ref nb, .ref ls, .int (iI mn)], ceI G sm 160 g, ceO 5 gs [.ref gb], ceJ G gb 3 (tw Z), ceI G nb 160 Nb, ceI G ls 160 Ls, ceO 2 x [.ref w, .ref go, .int (iI ac), .int (iI (bZ rk)), .ref ta, .ref o, .int (iI n), .int (iI ch)], ceO 5 ta [.ref tb], ceJ G tb 480 (tw B)] (fun v7 w7 => ∃ (g2 : Nat → Int) (Z2 : Nat → Nat → Bool), (gset B Nb Ls v (fun _ _ => True) Z2) ∧ v7 = none ∧ w7 = [ceO 3 y [.ref wt, .ref cn, .ref sm, .ref gs, .int (iI cs), .ref x, .ref nb, .ref ls, .int (iI mn)], ceI G sm 160 g2, ceO 5 gs [.ref gb], ceJ G gb 3 (tw Z2), ceI G nb 160 Nb, ceI G ls 160 Ls, ceO 2 x [.ref w, .ref go, .int (iI ac), .int (iI (bZ rk)), .ref ta, .ref o, .int (iI n), .int (iI ch)], ceO 5 ta [.ref tb], ceJ G tb 480 (tw B)]) := by
  refine vv_met (by decide +kernel) (Nat.le_of_ble_eq_true rfl) rfl ?_
  intro p e s m args below meth c A F
  refine vv_aload_n F zd_PA_findGoals_0 rfl 0 rfl ?_
  refine vv_get F zd_PA_findGoals_1 zf_PA 0 rfl rfl 3 (by decide) zw_148 rfl ?_
  refine vv_callV (q0 := 2) (As := []) (rest := []) (wr := [ceO 3 y [.ref wt, .ref cn, .ref sm, .ref gs, .int (iI cs), .ref x, .ref nb, .ref ls, .int (iI mn)], ceI G sm 160 g, ceI G nb 160 Nb, ceI G ls 160 Ls, ceO 2 x [.ref w, .ref go, .int (iI ac), .int (iI (bZ rk)), .ref ta, .ref o, .int (iI n), .int (iI ch)], ceO 5 ta [.ref tb], ceJ G tb 480 (tw B)]) F (cn_TA_wipe l G gs gb 3 Z (by omega)) zm_TA_wipe ⟨zw_97, zw_98⟩ zw_573 zd_PA_findGoals_4 ⟨by decide, by decide⟩ ⟨by decide, by decide⟩ [2, 3] [0, 1, 4, 5, 6, 7, 8] rfl rfl ⟨rfl, rfl, by decide⟩ rfl rfl rfl rfl (Nat.le_of_ble_eq_true rfl) (vv_then (ws' := [ceO 3 y [.ref wt, .ref cn, .ref sm, .ref gs, .int (iI cs), .ref x, .ref nb, .ref ls, .int (iI mn)], ceI G sm 160 g, ceO 5 gs [.ref gb], ceJ G gb 3 (tw (fun _ _ => false)), ceI G nb 160 Nb, ceI G ls 160 Ls, ceO 2 x [.ref w, .ref go, .int (iI ac), .int (iI (bZ rk)), .ref ta, .ref o, .int (iI n), .int (iI ch)], ceO 5 ta [.ref tb], ceJ G tb 480 (tw B)]) (st' := []) [0, 1, 7, 8, 2, 3, 4, 5, 6] rfl rfl rfl ?_)
  refine vv_iconst F zd_PA_findGoals_7 ?_
  refine vv_istore_n (lv' := [(0, .ref y), (1, .int (iI v)), (2, .int (iI 0))]) F zd_PA_findGoals_8 rfl (by decide) [1, 2, 0] rfl ?_
  refine lp_PA_fg F y wt cn sm gs nb ls gb x w go ta o tb B cs mn ac rk n ch Nb Ls v hn hB hv hNb hm hLs (fun g9 Z9 hI => ?_) n.toNat 0 g (fun _ _ => false) (by omega) ⟨by omega, gset_congr gset_0 (fun a b _ _ => ⟨fun h => absurd h (by omega), fun h => by rcases h with h | h; exact absurd h (by omega); exact absurd h.2 (by omega)⟩)⟩
  exact vv_vret F zd_PA_findGoals_107 ⟨g9, Z9, gset_congr hI.2 (fun a b hb _ => ⟨fun _ => trivial, fun _ => Or.inl (hB a b hb).1⟩), rfl, rfl⟩

set_option maxHeartbeats 4000000 in
set_option maxRecDepth 100000 in
theorem cn_PA_goals (l : Launch) (G : vv_G) (y : Nat) (wt : Nat) (cn : Nat) (sm : Nat) (gs : Nat) (nb : Nat) (ls : Nat) (gb : Nat) (x : Nat) (w : Nat) (go : Nat) (ta : Nat) (o : Nat) (tb : Nat) (B : Nat → Nat → Bool) (cs : Int) (mn : Int) (ac : Int) (rk : Bool) (n : Int) (ch : Int) (Nb : Nat → Int) (Ls : Nat → Int) (v : Int) (g : Nat → Int) (Z : Nat → Nat → Bool) (hn : 0 ≤ n ∧ n ≤ 160) (hB : ∀ x y, B x y = true → x < n.toNat ∧ y < n.toNat) (hv : 0 ≤ v ∧ v < 160) (hNb : ∀ j, j < n.toNat → 0 ≤ Nb j ∧ Nb j < mn) (hm : 0 ≤ mn ∧ mn ≤ 160) (hLs : ∀ c : Nat, (c : Int) < mn → 0 ≤ Ls c ∧ Ls c < 160) :
    vv_C l zy_PA_goals zc_PA_goals 2 (some .int) { frames := 4, cells := 0, slots := 0, locals := 95 } G [.ref y, .int (iI v)] [ceO 3 y [.ref wt, .ref cn, .ref sm, .ref gs, .int (iI cs), .ref x, .ref nb, .ref ls, .int (iI mn)], ceI G sm 160 g, ceO 5 gs [.ref gb], ceJ G gb 3 (tw Z), ceI G nb 160 Nb, ceI G ls 160 Ls, ceO 2 x [.ref w, .ref go, .int (iI ac), .int (iI (bZ rk)), .ref ta, .ref o, .int (iI n), .int (iI ch)], ceO 5 ta [.ref tb], ceJ G tb 480 (tw B)] (fun v7 w7 => ∃ (g2 : Nat → Int) (Z2 : Nat → Nat → Bool), (gset B Nb Ls v (fun _ _ => True) Z2) ∧ v7 = some (.int (iI (cN (Z2 0) 192 : Int))) ∧ w7 = [ceO 3 y [.ref wt, .ref cn, .ref sm, .ref gs, .int (iI cs), .ref x, .ref nb, .ref ls, .int (iI mn)], ceI G sm 160 g2, ceO 5 gs [.ref gb], ceJ G gb 3 (tw Z2), ceI G nb 160 Nb, ceI G ls 160 Ls, ceO 2 x [.ref w, .ref go, .int (iI ac), .int (iI (bZ rk)), .ref ta, .ref o, .int (iI n), .int (iI ch)], ceO 5 ta [.ref tb], ceJ G tb 480 (tw B)]) := by
  refine vv_met (by decide +kernel) (Nat.le_of_ble_eq_true rfl) rfl ?_
  intro p e s m args below meth c A F
  refine vv_aload_n F zd_PA_goals_0 rfl 0 rfl ?_
  refine vv_iload_n F zd_PA_goals_1 rfl 1 rfl ?_
  refine vv_callV (q0 := 0) (As := [.int (iI v)]) (rest := []) (wr := []) F (cn_PA_findGoals l G y wt cn sm gs nb ls gb x w go ta o tb B cs mn ac rk n ch Nb Ls v g Z ⟨by omega, by omega⟩ hB hv hNb hm hLs) zm_PA_findGoals ⟨zw_571, zs_PA_findGoals⟩ zw_569 zd_PA_goals_2 ⟨by decide, by decide⟩ ⟨by decide, by decide⟩ [0, 1, 2, 3, 4, 5, 6, 7, 8] [] rfl rfl ⟨rfl, rfl, by decide⟩ rfl rfl rfl rfl (Nat.le_of_ble_eq_true rfl) (fun v9 w9 hp9 => ?_)
  obtain ⟨g2_1, Z2_2, hf1_0, rfl, rfl⟩ := hp9
  refine vv_thenE (ws' := [ceO 3 y [.ref wt, .ref cn, .ref sm, .ref gs, .int (iI cs), .ref x, .ref nb, .ref ls, .int (iI mn)], ceI G sm 160 g2_1, ceO 5 gs [.ref gb], ceJ G gb 3 (tw Z2_2), ceI G nb 160 Nb, ceI G ls 160 Ls, ceO 2 x [.ref w, .ref go, .int (iI ac), .int (iI (bZ rk)), .ref ta, .ref o, .int (iI n), .int (iI ch)], ceO 5 ta [.ref tb], ceJ G tb 480 (tw B)]) (st' := []) (kc' := 0) (ks' := 0) [0, 1, 2, 3, 4, 5, 6, 7, 8] rfl rfl rfl ?_
  refine vv_aload_n F zd_PA_goals_5 rfl 0 rfl ?_
  refine vv_get F zd_PA_goals_6 zf_PA 0 rfl rfl 3 (by decide) zw_148 rfl ?_
  refine vv_iconst F zd_PA_goals_9 ?_
  refine vv_callV (q0 := 2) (As := [.int (iI 0)]) (rest := []) (wr := [ceO 3 y [.ref wt, .ref cn, .ref sm, .ref gs, .int (iI cs), .ref x, .ref nb, .ref ls, .int (iI mn)], ceI G sm 160 g2_1, ceI G nb 160 Nb, ceI G ls 160 Ls, ceO 2 x [.ref w, .ref go, .int (iI ac), .int (iI (bZ rk)), .ref ta, .ref o, .int (iI n), .int (iI ch)], ceO 5 ta [.ref tb], ceJ G tb 480 (tw B)]) F (cn_TA_count l G gs gb 3 Z2_2 0 ⟨by omega, by omega⟩ (by omega)) zm_TA_count ⟨zw_304, zw_305⟩ zw_575 zd_PA_goals_10 ⟨by decide, by decide⟩ ⟨by decide, by decide⟩ [2, 3] [0, 1, 4, 5, 6, 7, 8] rfl rfl ⟨rfl, rfl, by decide⟩ rfl rfl rfl rfl (Nat.le_of_ble_eq_true rfl) (vv_then (ws' := [ceO 3 y [.ref wt, .ref cn, .ref sm, .ref gs, .int (iI cs), .ref x, .ref nb, .ref ls, .int (iI mn)], ceI G sm 160 g2_1, ceO 5 gs [.ref gb], ceJ G gb 3 (tw Z2_2), ceI G nb 160 Nb, ceI G ls 160 Ls, ceO 2 x [.ref w, .ref go, .int (iI ac), .int (iI (bZ rk)), .ref ta, .ref o, .int (iI n), .int (iI ch)], ceO 5 ta [.ref tb], ceJ G tb 480 (tw B)]) (st' := [.int (iI (cN (Z2_2 0) 192 : Int))]) [0, 1, 7, 8, 2, 3, 4, 5, 6] rfl rfl rfl ?_)
  exact vv_iret F zd_PA_goals_13 ⟨_, _, hf1_0, rfl, rfl⟩

set_option maxHeartbeats 4000000 in
set_option maxRecDepth 100000 in
theorem lp_PA_ga {p : Program} {l : Launch} {e : Env} {s : State} {m : MethodId} {args : Array Value} {below : List Frame} {meth : Method} {c : Code} {A : Nat → Prop} {Q : State → Prop} {G : vv_G} (F : vv_F p s m args meth c zc_PA_goalsAlone "ClauseGraph$Parts" "goalsAlone" (some .int) G A 5) (y : Nat) (wt : Nat) (cn : Nat) (sm : Nat) (gs : Nat) (nb : Nat) (ls : Nat) (gb : Nat) (x : Nat) (w : Nat) (go : Nat) (ta : Nat) (o : Nat) (tb : Nat) (B : Nat → Nat → Bool) (cs : Int) (mn : Int) (ac : Int) (rk : Bool) (n : Int) (ch : Int) (Nb : Nat → Int) (Ls : Nat → Int) (v : Int) (ah : Nat) (ab : Nat) (bh : Nat) (bb : Nat) (so : Nat) (H : Nat → Nat → Bool) (K : Nat → Nat → Bool) (f : Nat → Int) (Z : Nat → Nat → Bool) (g : Nat → Int) (g0 : Nat → Int) (hZ : ∀ y, Z 0 y = true → y < 160) (hl : lsd (Z 0) 192 0 g0 g)
    (k : ∀ (z : Int), (0 ≤ (cN (Z 0) 192 : Int) ∧ z = (cN (fun b => Z 0 b && decide (cN (Z 0) b < (cN (Z 0) 192 : Int).toNat) && decide (cN (fun p => K b p && Z 0 p) 192 = 1)) 192 : Int)) → vv_V p l e { frames := 4, cells := 0, slots := 0, locals := 95 } s m args below meth c G A 5 Q 64 [(0, .ref y), (1, .int (iI v)), (2, .int (iI z)), (3, .int (iI (cN (Z 0) 192 : Int))), (4, .int (iI (cN (Z 0) 192 : Int)))] [] [ceO 3 y [.ref wt, .ref cn, .ref sm, .ref gs, .int (iI cs), .ref x, .ref nb, .ref ls, .int (iI mn)], ceI G sm 160 g, ceO 5 gs [.ref gb], ceJ G gb 3 (tw Z), ceI G nb 160 Nb, ceI G ls 160 Ls, ceO 2 x [.ref w, .ref go, .int (iI ac), .int (iI (bZ rk)), .ref ta, .ref o, .int (iI n), .int (iI ch)], ceO 5 ta [.ref tb], ceJ G tb 480 (tw B), ceO 4 o [.ref ah, .ref bh, .ref so], ceO 5 ah [.ref ab], ceJ G ab 480 (tw H), ceO 5 bh [.ref bb], ceJ G bb 480 (tw K), ceI G so 160 f] 0 0)  :
    ∀ (d : Nat) (j : Int) (z : Int), j + (d : Int) = (cN (Z 0) 192 : Int) → (0 ≤ j ∧ z = (cN (fun b => Z 0 b && decide (cN (Z 0) b < j.toNat) && decide (cN (fun p => K b p && Z 0 p) 192 = 1)) 192 : Int)) → vv_V p l e { frames := 4, cells := 0, slots := 0, locals := 95 } s m args below meth c G A 5 Q 24 [(0, .ref y), (1, .int (iI v)), (2, .int (iI z)), (3, .int (iI (cN (Z 0) 192 : Int))), (4, .int (iI j))] [] [ceO 3 y [.ref wt, .ref cn, .ref sm, .ref gs, .int (iI cs), .ref x, .ref nb, .ref ls, .int (iI mn)], ceI G sm 160 g, ceO 5 gs [.ref gb], ceJ G gb 3 (tw Z), ceI G nb 160 Nb, ceI G ls 160 Ls, ceO 2 x [.ref w, .ref go, .int (iI ac), .int (iI (bZ rk)), .ref ta, .ref o, .int (iI n), .int (iI ch)], ceO 5 ta [.ref tb], ceJ G tb 480 (tw B), ceO 4 o [.ref ah, .ref bh, .ref so], ceO 5 ah [.ref ab], ceJ G ab 480 (tw H), ceO 5 bh [.ref bb], ceJ G bb 480 (tw K), ceI G so 160 f] 0 0 := by
  intro d
  induction d with
  | zero =>
    intro j z hd hI
    have hz : j = (cN (Z 0) 192 : Int) := by omega
    subst hz
    have hb := cN_160 (fun y hy => hZ y hy)
    refine vv_iload F zd_PA_goalsAlone_24 4 rfl ?_
    refine vv_iload_n F zd_PA_goalsAlone_26 rfl 3 rfl ?_
    refine vv_icmp_ge (tgt := 64) F zd_PA_goalsAlone_27 rfl (by first | exact ⟨by omega, by omega⟩) (by first | exact ⟨by omega, by omega⟩) (fun _ => ?_) (fun h9 => absurd h9 (by omega))
    exact k z hI
  | succ d ih =>
    intro j z hd hI
    have hb := cN_160 (fun y hy => hZ y hy)
    obtain ⟨p9, hp1, hp2, hp3, hp4⟩ := lsd_at0 hl (i := j.toNat) (by omega)
    have hp5 := hZ p9 hp2
    have hp7 : (g j.toNat).toNat = p9 := by omega
    have hrk := rk_step (q := fun b => decide (cN (fun p => K b p && Z 0 p) 192 = 1)) hp2 hp3 hp1
    have hcl := cN_le (fun p => K p9 p && Z 0 p) 192
    rw [← show (j + 1).toNat = j.toNat + 1 by omega] at hrk
    rw [← hp7] at hrk hcl
    refine vv_iload F zd_PA_goalsAlone_24 4 rfl ?_
    refine vv_iload_n F zd_PA_goalsAlone_26 rfl 3 rfl ?_
    refine vv_icmp_ge (tgt := 64) F zd_PA_goalsAlone_27 rfl (by first | exact ⟨by omega, by omega⟩) (by first | exact ⟨by omega, by omega⟩) (fun h9 => absurd h9 (by omega)) (fun _ => ?_)
    refine vv_aload_n F zd_PA_goalsAlone_30 rfl 0 rfl ?_
    refine vv_get F zd_PA_goalsAlone_31 zf_PA 0 rfl rfl 5 (by decide) zw_151 rfl ?_
    refine vv_get F zd_PA_goalsAlone_34 zf_NE 6 rfl rfl 5 (by decide) zw_122 rfl ?_
    refine vv_aload_n F zd_PA_goalsAlone_37 rfl 0 rfl ?_
    refine vv_get F zd_PA_goalsAlone_38 zf_PA 0 rfl rfl 2 (by decide) zw_147 rfl ?_
    refine vv_iload F zd_PA_goalsAlone_41 4 rfl ?_
    refine vv_iald F zd_PA_goalsAlone_43 1 rfl ⟨by omega, by omega⟩ (by decide) ?_
    refine vv_aload_n F zd_PA_goalsAlone_44 rfl 0 rfl ?_
    refine vv_get F zd_PA_goalsAlone_45 zf_PA 0 rfl rfl 3 (by decide) zw_148 rfl ?_
    refine vv_callV (q0 := 9) (As := [.int (iI (g j.toNat)), .ref gs]) (rest := []) (wr := [ceO 3 y [.ref wt, .ref cn, .ref sm, .ref gs, .int (iI cs), .ref x, .ref nb, .ref ls, .int (iI mn)], ceI G sm 160 g, ceI G nb 160 Nb, ceI G ls 160 Ls, ceO 2 x [.ref w, .ref go, .int (iI ac), .int (iI (bZ rk)), .ref ta, .ref o, .int (iI n), .int (iI ch)], ceO 5 ta [.ref tb], ceJ G tb 480 (tw B)]) F (cn_RE_countBehindIn l G o ah ab bh bb so H K f (g j.toNat) gs gb Z ⟨by omega, by omega⟩) zm_RE_countBehindIn ⟨zw_581, zw_582⟩ zw_580 zd_PA_goalsAlone_48 ⟨by decide, by decide⟩ ⟨by decide, by decide⟩ [9, 10, 11, 12, 13, 14, 2, 3] [0, 1, 4, 5, 6, 7, 8] rfl rfl ⟨rfl, rfl, by decide⟩ rfl rfl rfl rfl (Nat.le_of_ble_eq_true rfl) (vv_then (ws' := [ceO 3 y [.ref wt, .ref cn, .ref sm, .ref gs, .int (iI cs), .ref x, .ref nb, .ref ls, .int (iI mn)], ceI G sm 160 g, ceO 5 gs [.ref gb], ceJ G gb 3 (tw Z), ceI G nb 160 Nb, ceI G ls 160 Ls, ceO 2 x [.ref w, .ref go, .int (iI ac), .int (iI (bZ rk)), .ref ta, .ref o, .int (iI n), .int (iI ch)], ceO 5 ta [.ref tb], ceJ G tb 480 (tw B), ceO 4 o [.ref ah, .ref bh, .ref so], ceO 5 ah [.ref ab], ceJ G ab 480 (tw H), ceO 5 bh [.ref bb], ceJ G bb 480 (tw K), ceI G so 160 f]) (st' := [.int (iI (cN (fun p => K (g j.toNat).toNat p && Z 0 p) 192 : Int))]) [0, 1, 13, 14, 2, 3, 4, 5, 6, 7, 8, 9, 10, 11, 12] rfl rfl rfl ?_)
    refine vv_iconst F zd_PA_goalsAlone_51 ?_
    refine vv_icmp_ne (tgt := 58) F zd_PA_goalsAlone_52 rfl (by first | exact ⟨by omega, by omega⟩) (by decide) (fun h1 => ?_) (fun h1 => ?_)
    · refine vv_iinc (j := 4) (lv' := [(0, .ref y), (1, .int (iI v)), (2, .int (iI z)), (3, .int (iI (cN (Z 0) 192 : Int))), (4, .int (iI (j + 1)))]) F zd_PA_goalsAlone_58 rfl (by decide) [1, 2, 3, 4, 0] rfl ?_
      refine vv_goto (tgt := 24) F zd_PA_goalsAlone_61 rfl ?_
      exact ih (j + 1) z (by omega) (⟨by omega, by
      rw [decide_eq_false (by omega)] at hrk
      simp only [Bool.false_eq_true, if_false, Nat.add_zero] at hrk
      omega⟩)
    · refine vv_iinc (j := 2) (lv' := [(0, .ref y), (1, .int (iI v)), (2, .int (iI (z + 1))), (3, .int (iI (cN (Z 0) 192 : Int))), (4, .int (iI j))]) F zd_PA_goalsAlone_55 rfl (by decide) [1, 2, 0, 3, 4] rfl ?_
      refine vv_iinc (j := 4) (lv' := [(0, .ref y), (1, .int (iI v)), (2, .int (iI (z + 1))), (3, .int (iI (cN (Z 0) 192 : Int))), (4, .int (iI (j + 1)))]) F zd_PA_goalsAlone_58 rfl (by decide) [1, 2, 3, 4, 0] rfl ?_
      refine vv_goto (tgt := 24) F zd_PA_goalsAlone_61 rfl ?_
      exact ih (j + 1) (z + 1) (by omega) (⟨by omega, by
      rw [decide_eq_true (by omega)] at hrk
      simp only [if_true, Nat.add_zero] at hrk
      omega⟩)

theorem gset_lt {B : Nat → Nat → Bool} {n : Nat} {num lst : Nat → Int} {c mn : Int} {P : Nat → Nat → Prop} {Z : Nat → Nat → Bool} (h : gset B num lst c P Z) (hB : ∀ x y, B x y = true → x < n ∧ y < n) (hN : ∀ j, j < n → 0 ≤ num j ∧ num j < mn) (hL : ∀ c : Nat, (c : Int) < mn → 0 ≤ lst c ∧ lst c < 160) : ∀ y, Z 0 y = true → y < 160 := fun y hy => by
  obtain ⟨a, b, h1, -, -, -, h5⟩ := (h y).mp hy
  have := hN b (hB a b h1).2
  have := hL (num b).toNat (by omega)
  omega

set_option maxHeartbeats 4000000 in
set_option maxRecDepth 100000 in
theorem cn_PA_goalsAlone (l : Launch) (G : vv_G) (y : Nat) (wt : Nat) (cn : Nat) (sm : Nat) (gs : Nat) (nb : Nat) (ls : Nat) (gb : Nat) (x : Nat) (w : Nat) (go : Nat) (ta : Nat) (o : Nat) (tb : Nat) (B : Nat → Nat → Bool) (cs : Int) (mn : Int) (ac : Int) (rk : Bool) (n : Int) (ch : Int) (Nb : Nat → Int) (Ls : Nat → Int) (v : Int) (ah : Nat) (ab : Nat) (bh : Nat) (bb : Nat) (so : Nat) (H : Nat → Nat → Bool) (K : Nat → Nat → Bool) (f : Nat → Int) (g : Nat → Int) (Z : Nat → Nat → Bool) (hn : 0 ≤ n ∧ n ≤ 160) (hB : ∀ x y, B x y = true → x < n.toNat ∧ y < n.toNat) (hv : 0 ≤ v ∧ v < 160) (hNb : ∀ j, j < n.toNat → 0 ≤ Nb j ∧ Nb j < mn) (hm : 0 ≤ mn ∧ mn ≤ 160) (hLs : ∀ c : Nat, (c : Int) < mn → 0 ≤ Ls c ∧ Ls c < 160) :
    vv_C l zy_PA_goalsAlone zc_PA_goalsAlone 5 (some .int) { frames := 4, cells := 0, slots := 0, locals := 95 } G [.ref y, .int (iI v)] [ceO 3 y [.ref wt, .ref cn, .ref sm, .ref gs, .int (iI cs), .ref x, .ref nb, .ref ls, .int (iI mn)], ceI G sm 160 g, ceO 5 gs [.ref gb], ceJ G gb 3 (tw Z), ceI G nb 160 Nb, ceI G ls 160 Ls, ceO 2 x [.ref w, .ref go, .int (iI ac), .int (iI (bZ rk)), .ref ta, .ref o, .int (iI n), .int (iI ch)], ceO 5 ta [.ref tb], ceJ G tb 480 (tw B), ceO 4 o [.ref ah, .ref bh, .ref so], ceO 5 ah [.ref ab], ceJ G ab 480 (tw H), ceO 5 bh [.ref bb], ceJ G bb 480 (tw K), ceI G so 160 f] (fun v7 w7 => ∃ (g2 : Nat → Int) (Z2 : Nat → Nat → Bool), (gset B Nb Ls v (fun _ _ => True) Z2) ∧ v7 = some (.int (iI (cN (fun b => Z2 0 b && decide (cN (fun p => K b p && Z2 0 p) 192 = 1)) 192 : Int))) ∧ w7 = [ceO 3 y [.ref wt, .ref cn, .ref sm, .ref gs, .int (iI cs), .ref x, .ref nb, .ref ls, .int (iI mn)], ceI G sm 160 g2, ceO 5 gs [.ref gb], ceJ G gb 3 (tw Z2), ceI G nb 160 Nb, ceI G ls 160 Ls, ceO 2 x [.ref w, .ref go, .int (iI ac), .int (iI (bZ rk)), .ref ta, .ref o, .int (iI n), .int (iI ch)], ceO 5 ta [.ref tb], ceJ G tb 480 (tw B), ceO 4 o [.ref ah, .ref bh, .ref so], ceO 5 ah [.ref ab], ceJ G ab 480 (tw H), ceO 5 bh [.ref bb], ceJ G bb 480 (tw K), ceI G so 160 f]) := by
  refine vv_met (by decide +kernel) (Nat.le_of_ble_eq_true rfl) rfl ?_
  intro p e s m args below meth c A F
  refine vv_aload_n F zd_PA_goalsAlone_0 rfl 0 rfl ?_
  refine vv_iload_n F zd_PA_goalsAlone_1 rfl 1 rfl ?_
  refine vv_callV (q0 := 0) (As := [.int (iI v)]) (rest := []) (wr := [ceO 4 o [.ref ah, .ref bh, .ref so], ceO 5 ah [.ref ab], ceJ G ab 480 (tw H), ceO 5 bh [.ref bb], ceJ G bb 480 (tw K), ceI G so 160 f]) F (cn_PA_findGoals l G y wt cn sm gs nb ls gb x w go ta o tb B cs mn ac rk n ch Nb Ls v g Z ⟨by omega, by omega⟩ hB hv hNb hm hLs) zm_PA_findGoals ⟨zw_571, zs_PA_findGoals⟩ zw_569 zd_PA_goalsAlone_2 ⟨by decide, by decide⟩ ⟨by decide, by decide⟩ [0, 1, 2, 3, 4, 5, 6, 7, 8] [9, 10, 11, 12, 13, 14] rfl rfl ⟨rfl, rfl, by decide⟩ rfl rfl rfl rfl (Nat.le_of_ble_eq_true rfl) (fun v9 w9 hp9 => ?_)
  obtain ⟨g2_1, Z2_2, hf1_0, rfl, rfl⟩ := hp9
  refine vv_thenE (ws' := [ceO 3 y [.ref wt, .ref cn, .ref sm, .ref gs, .int (iI cs), .ref x, .ref nb, .ref ls, .int (iI mn)], ceI G sm 160 g2_1, ceO 5 gs [.ref gb], ceJ G gb 3 (tw Z2_2), ceI G nb 160 Nb, ceI G ls 160 Ls, ceO 2 x [.ref w, .ref go, .int (iI ac), .int (iI (bZ rk)), .ref ta, .ref o, .int (iI n), .int (iI ch)], ceO 5 ta [.ref tb], ceJ G tb 480 (tw B), ceO 4 o [.ref ah, .ref bh, .ref so], ceO 5 ah [.ref ab], ceJ G ab 480 (tw H), ceO 5 bh [.ref bb], ceJ G bb 480 (tw K), ceI G so 160 f]) (st' := []) (kc' := 0) (ks' := 0) [6, 7, 8, 9, 10, 11, 12, 13, 14, 0, 1, 2, 3, 4, 5] rfl rfl rfl ?_
  have hZ9 := gset_lt hf1_0 hB hNb hLs
  refine vv_iconst F zd_PA_goalsAlone_5 ?_
  refine vv_istore_n (lv' := [(0, .ref y), (1, .int (iI v)), (2, .int (iI 0))]) F zd_PA_goalsAlone_6 rfl (by decide) [1, 2, 0] rfl ?_
  refine vv_aload_n F zd_PA_goalsAlone_7 rfl 0 rfl ?_
  refine vv_get F zd_PA_goalsAlone_8 zf_PA 0 rfl rfl 3 (by decide) zw_148 rfl ?_
  refine vv_iconst F zd_PA_goalsAlone_11 ?_
  refine vv_aload_n F zd_PA_goalsAlone_12 rfl 0 rfl ?_
  refine vv_get F zd_PA_goalsAlone_13 zf_PA 0 rfl rfl 2 (by decide) zw_147 rfl ?_
  refine vv_iconst F zd_PA_goalsAlone_16 ?_
  refine vv_callV (q0 := 2) (As := [.int (iI 0), .ref sm, .int (iI 0)]) (rest := []) (wr := [ceO 3 y [.ref wt, .ref cn, .ref sm, .ref gs, .int (iI cs), .ref x, .ref nb, .ref ls, .int (iI mn)], ceI G nb 160 Nb, ceI G ls 160 Ls, ceO 2 x [.ref w, .ref go, .int (iI ac), .int (iI (bZ rk)), .ref ta, .ref o, .int (iI n), .int (iI ch)], ceO 5 ta [.ref tb], ceJ G tb 480 (tw B), ceO 4 o [.ref ah, .ref bh, .ref so], ceO 5 ah [.ref ab], ceJ G ab 480 (tw H), ceO 5 bh [.ref bb], ceJ G bb 480 (tw K), ceI G so 160 f]) F (cn_TA_list l G gs gb 3 Z2_2 0 sm g2_1 0 ⟨by omega, by omega⟩ (by omega) ⟨by omega, (by have h9 := cN_160 hZ9; omega : (0 : Int) + (cN (Z2_2 0) 192 : Int) ≤ 160)⟩) zm_TA_list ⟨zw_270, zw_271⟩ zw_560 zd_PA_goalsAlone_17 ⟨by decide, by decide⟩ ⟨by decide, by decide⟩ [2, 3, 1] [0, 4, 5, 6, 7, 8, 9, 10, 11, 12, 13, 14] rfl rfl ⟨rfl, rfl, by decide⟩ rfl rfl rfl rfl (Nat.le_of_ble_eq_true rfl) (fun v9 w9 hp9 => ?_)
  obtain ⟨f2_3, hf2_0, rfl, rfl⟩ := hp9
  refine vv_thenE (ws' := [ceO 3 y [.ref wt, .ref cn, .ref sm, .ref gs, .int (iI cs), .ref x, .ref nb, .ref ls, .int (iI mn)], ceI G sm 160 f2_3, ceO 5 gs [.ref gb], ceJ G gb 3 (tw Z2_2), ceI G nb 160 Nb, ceI G ls 160 Ls, ceO 2 x [.ref w, .ref go, .int (iI ac), .int (iI (bZ rk)), .ref ta, .ref o, .int (iI n), .int (iI ch)], ceO 5 ta [.ref tb], ceJ G tb 480 (tw B), ceO 4 o [.ref ah, .ref bh, .ref so], ceO 5 ah [.ref ab], ceJ G ab 480 (tw H), ceO 5 bh [.ref bb], ceJ G bb 480 (tw K), ceI G so 160 f]) (st' := [.int (iI (0 + (cN (Z2_2 0) 192 : Int)))]) (kc' := 0) (ks' := 0) [0, 14, 12, 13, 1, 2, 3, 4, 5, 6, 7, 8, 9, 10, 11] rfl rfl rfl ?_
  refine vv_ti (Int.zero_add _) ?_
  refine vv_istore_n (lv' := [(0, .ref y), (1, .int (iI v)), (2, .int (iI 0)), (3, .int (iI (cN (Z2_2 0) 192 : Int)))]) F zd_PA_goalsAlone_20 rfl (by decide) [1, 2, 3, 0] rfl ?_
  refine vv_iconst F zd_PA_goalsAlone_21 ?_
  refine vv_istore (lv' := [(0, .ref y), (1, .int (iI v)), (2, .int (iI 0)), (3, .int (iI (cN (Z2_2 0) 192 : Int))), (4, .int (iI 0))]) F zd_PA_goalsAlone_22 (by decide) [1, 2, 3, 4, 0] rfl ?_
  refine lp_PA_ga F y wt cn sm gs nb ls gb x w go ta o tb B cs mn ac rk n ch Nb Ls v ah ab bh bb so H K f Z2_2 f2_3 _ hZ9 hf2_0 (fun z9 hI => ?_) (cN (Z2_2 0) 192) 0 0 (by omega) ⟨by omega, by rw [show (0 : Int).toNat = 0 from rfl, rk_0]; rfl⟩
  refine vv_iload_n F zd_PA_goalsAlone_64 rfl 2 rfl ?_
  exact vv_iret F zd_PA_goalsAlone_65 ⟨_, _, hf1_0, by rw [hI.2, show ((cN (Z2_2 0) 192 : Int)).toNat = cN (Z2_2 0) 192 from rfl, rk_end (fun y hy => by have := hZ9 y hy; omega) (Nat.le_refl 192)], rfl⟩
