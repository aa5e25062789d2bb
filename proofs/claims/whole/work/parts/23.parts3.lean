set_option maxHeartbeats 4000000 in
set_option maxRecDepth 100000 in
theorem lp_PA_lc1 {p : Program} {l : Launch} {e : Env} {s : State} {m : MethodId} {args : Array Value} {below : List Frame} {meth : Method} {c : Code} {A : Nat → Prop} {Q : State → Prop} {G : vv_G} (F : vv_F p s m args meth c zc_PA_longestChain "ClauseGraph$Parts" "longestChain" (some .int) G A 6) (y : Nat) (wt : Nat) (cn : Nat) (sm : Nat) (gs : Nat) (nb : Nat) (ls : Nat) (x : Nat) (w : Nat) (go : Nat) (ta : Nat) (o : Nat) (ah : Nat) (ab : Nat) (bh : Nat) (bb : Nat) (so : Nat) (cs : Int) (mn : Int) (ac : Int) (rk : Bool) (n : Int) (ch : Int) (H : Nat → Nat → Bool) (K : Nat → Nat → Bool) (f : Nat → Int) (Nb : Nat → Int) (Ls : Nat → Int) (B : Nat → Nat → Bool) (v : Int) (i : Int) (g : Nat → Int) (g0 : Nat → Int) (hn : 0 ≤ n ∧ n ≤ 160) (hc : cl B n.toNat H K) (hN : numC n.toNat H Nb Ls mn) (hi : 0 ≤ i ∧ i < mn) (hl : lsd (H (Ls i.toNat).toNat) 192 0 g0 g)
    (k : ∀ (C : Nat → Int), (0 ≤ (cN (H (Ls i.toNat).toNat) 192 : Int) ∧ chn H Nb Ls mn ((i.toNat : Int) + 1) C ∧ chq H Nb mn (Ls i.toNat).toNat i.toNat (cN (H (Ls i.toNat).toNat) 192 : Int).toNat C) → vv_V p l e { frames := 4, cells := 0, slots := 0, locals := 92 } s m args below meth c G A 6 Q 99 [(0, .ref y), (1, .int (iI v)), (2, .int (iI i)), (3, .int (iI (cN (H (Ls i.toNat).toNat) 192 : Int))), (4, .int (iI (cN (H (Ls i.toNat).toNat) 192 : Int)))] [] [ceO 3 y [.ref wt, .ref cn, .ref sm, .ref gs, .int (iI cs), .ref x, .ref nb, .ref ls, .int (iI mn)], ceI G cn 160 C, ceI G sm 160 g, ceI G nb 160 Nb, ceI G ls 160 Ls, ceO 2 x [.ref w, .ref go, .int (iI ac), .int (iI (bZ rk)), .ref ta, .ref o, .int (iI n), .int (iI ch)], ceO 4 o [.ref ah, .ref bh, .ref so], ceO 5 ah [.ref ab], ceJ G ab 480 (tw H), ceO 5 bh [.ref bb], ceJ G bb 480 (tw K), ceI G so 160 f] 0 0)  :
    ∀ (d : Nat) (j : Int) (C : Nat → Int), j + (d : Int) = (cN (H (Ls i.toNat).toNat) 192 : Int) → (0 ≤ j ∧ chn H Nb Ls mn ((i.toNat : Int) + 1) C ∧ chq H Nb mn (Ls i.toNat).toNat i.toNat j.toNat C) → vv_V p l e { frames := 4, cells := 0, slots := 0, locals := 92 } s m args below meth c G A 6 Q 43 [(0, .ref y), (1, .int (iI v)), (2, .int (iI i)), (3, .int (iI (cN (H (Ls i.toNat).toNat) 192 : Int))), (4, .int (iI j))] [] [ceO 3 y [.ref wt, .ref cn, .ref sm, .ref gs, .int (iI cs), .ref x, .ref nb, .ref ls, .int (iI mn)], ceI G cn 160 C, ceI G sm 160 g, ceI G nb 160 Nb, ceI G ls 160 Ls, ceO 2 x [.ref w, .ref go, .int (iI ac), .int (iI (bZ rk)), .ref ta, .ref o, .int (iI n), .int (iI ch)], ceO 4 o [.ref ah, .ref bh, .ref so], ceO 5 ah [.ref ab], ceJ G ab 480 (tw H), ceO 5 bh [.ref bb], ceJ G bb 480 (tw K), ceI G so 160 f] 0 0 := by
  intro d
  induction d with
  | zero =>
    intro j C hd hI
    have hz : j = (cN (H (Ls i.toNat).toNat) 192 : Int) := by omega
    subst hz
    have hb := cN_160 (fun y hy => ((cl_wf hc (by omega)).1 (Ls i.toNat).toNat y hy).2)
    obtain ⟨k1, k2, k3, k4⟩ := numC_in hN
    refine vv_iload F zd_PA_longestChain_43 4 rfl ?_
    refine vv_iload_n F zd_PA_longestChain_45 rfl 3 rfl ?_
    refine vv_icmp_ge (tgt := 99) F zd_PA_longestChain_46 rfl (by first | exact ⟨by omega, by omega⟩) (by first | exact ⟨by omega, by omega⟩) (fun _ => ?_) (fun h9 => absurd h9 (by omega))
    exact k C hI
  | succ d ih =>
    intro j C hd hI
    have wH := (cl_wf hc (by omega)).1
    obtain ⟨k1, k2, k3, k4⟩ := numC_in hN
    have hb := cN_160 (fun y hy => (wH (Ls i.toNat).toNat y hy).2)
    obtain ⟨p9, hp1, hp2, hp3, hp4⟩ := lsd_at0 hl (i := j.toNat) (by omega)
    have hp5 := ((hc.1 _ _).mp hp2).2.1
    have hp6 := k1 p9 hp5
    have hp7 : (g j.toNat).toNat = p9 := by omega
    rw [← hp7] at hp6
    have hq := hI.2.2
    have hq1 := hq.1
    have hq2 := hq.2.1
    refine vv_iload F zd_PA_longestChain_43 4 rfl ?_
    refine vv_iload_n F zd_PA_longestChain_45 rfl 3 rfl ?_
    refine vv_icmp_ge (tgt := 99) F zd_PA_longestChain_46 rfl (by first | exact ⟨by omega, by omega⟩) (by first | exact ⟨by omega, by omega⟩) (fun h9 => absurd h9 (by omega)) (fun _ => ?_)
    refine vv_aload_n F zd_PA_longestChain_49 rfl 0 rfl ?_
    refine vv_get F zd_PA_longestChain_50 zf_PA 0 rfl rfl 6 (by decide) zw_152 rfl ?_
    refine vv_aload_n F zd_PA_longestChain_53 rfl 0 rfl ?_
    refine vv_get F zd_PA_longestChain_54 zf_PA 0 rfl rfl 2 (by decide) zw_147 rfl ?_
    refine vv_iload F zd_PA_longestChain_57 4 rfl ?_
    refine vv_iald F zd_PA_longestChain_59 2 rfl ⟨by omega, by omega⟩ (by decide) ?_
    refine vv_iald F zd_PA_longestChain_60 3 rfl ⟨by omega, by omega⟩ (by decide) ?_
    refine vv_istore (lv' := [(0, .ref y), (1, .int (iI v)), (2, .int (iI i)), (3, .int (iI (cN (H (Ls i.toNat).toNat) 192 : Int))), (4, .int (iI j)), (5, .int (iI (Nb (g j.toNat).toNat)))]) F zd_PA_longestChain_61 (by decide) [1, 2, 3, 4, 5, 0] rfl ?_
    refine vv_iload F zd_PA_longestChain_63 5 rfl ?_
    refine vv_iload_n F zd_PA_longestChain_65 rfl 2 rfl ?_
    refine vv_icmp_le (tgt := 93) F zd_PA_longestChain_66 rfl (by first | exact ⟨by omega, by omega⟩) (by first | exact ⟨by omega, by omega⟩) (fun h1 => ?_) (fun h1 => ?_)
    · refine vv_iinc (j := 4) (lv' := [(0, .ref y), (1, .int (iI v)), (2, .int (iI i)), (3, .int (iI (cN (H (Ls i.toNat).toNat) 192 : Int))), (4, .int (iI (j + 1))), (5, .int (iI (Nb (g j.toNat).toNat)))]) F zd_PA_longestChain_93 rfl (by decide) [1, 2, 3, 4, 0, 5] rfl ?_
      refine vv_goto (tgt := 43) F zd_PA_longestChain_96 rfl ?_
      refine vv_locals (lv' := [(0, .ref y), (1, .int (iI v)), (2, .int (iI i)), (3, .int (iI (cN (H (Ls i.toNat).toNat) 192 : Int))), (4, .int (iI (j + 1)))]) [0, 1, 2, 3, 4] rfl ?_
      exact ih (j + 1) C (by omega) (⟨by omega, hI.2.1, by
      rw [show (j + 1).toNat = j.toNat + 1 by omega]
      exact chq_skip hI.2.2 hp2 hp3 (by rw [← hp7]; omega)⟩)
    · obtain ⟨f1, f2, -, -⟩ := hI.2.1 (Nb (g j.toNat).toNat).toNat (by omega) (by omega)
      refine vv_aload_n F zd_PA_longestChain_69 rfl 0 rfl ?_
      refine vv_get F zd_PA_longestChain_70 zf_PA 0 rfl rfl 1 (by decide) zw_146 rfl ?_
      refine vv_iload_n F zd_PA_longestChain_73 rfl 2 rfl ?_
      refine vv_aload_n F zd_PA_longestChain_74 rfl 0 rfl ?_
      refine vv_get F zd_PA_longestChain_75 zf_PA 0 rfl rfl 1 (by decide) zw_146 rfl ?_
      refine vv_iload_n F zd_PA_longestChain_78 rfl 2 rfl ?_
      refine vv_iald F zd_PA_longestChain_79 1 rfl ⟨by omega, by omega⟩ (by decide) ?_
      refine vv_iconst F zd_PA_longestChain_80 ?_
      refine vv_aload_n F zd_PA_longestChain_81 rfl 0 rfl ?_
      refine vv_get F zd_PA_longestChain_82 zf_PA 0 rfl rfl 1 (by decide) zw_146 rfl ?_
      refine vv_iload F zd_PA_longestChain_85 5 rfl ?_
      refine vv_iald F zd_PA_longestChain_87 1 rfl ⟨by omega, by omega⟩ (by decide) ?_
      refine vv_iadd F zd_PA_longestChain_88 ?_
      refine vv_max F zd_PA_longestChain_89 zw_352 (by first | exact ⟨by omega, by omega⟩) (by first | exact ⟨by omega, by omega⟩) zw_353 zw_16 zw_354 (Nat.le_of_ble_eq_true rfl) (by decide) (by decide) (by decide) (by decide) ?_
      refine vv_iast (x := max (C i.toNat) (1 + (C (Nb (g j.toNat).toNat).toNat))) (ws' := [ceO 3 y [.ref wt, .ref cn, .ref sm, .ref gs, .int (iI cs), .ref x, .ref nb, .ref ls, .int (iI mn)], ceI G cn 160 (va_up C i.toNat (max (C i.toNat) (1 + (C (Nb (g j.toNat).toNat).toNat)))), ceI G sm 160 g, ceI G nb 160 Nb, ceI G ls 160 Ls, ceO 2 x [.ref w, .ref go, .int (iI ac), .int (iI (bZ rk)), .ref ta, .ref o, .int (iI n), .int (iI ch)], ceO 4 o [.ref ah, .ref bh, .ref so], ceO 5 ah [.ref ab], ceJ G ab 480 (tw H), ceO 5 bh [.ref bb], ceJ G bb 480 (tw K), ceI G so 160 f]) F zd_PA_longestChain_92 1 rfl ⟨by omega, by omega⟩ (by decide) rfl ?_
      refine vv_iinc (j := 4) (lv' := [(0, .ref y), (1, .int (iI v)), (2, .int (iI i)), (3, .int (iI (cN (H (Ls i.toNat).toNat) 192 : Int))), (4, .int (iI (j + 1))), (5, .int (iI (Nb (g j.toNat).toNat)))]) F zd_PA_longestChain_93 rfl (by decide) [1, 2, 3, 4, 0, 5] rfl ?_
      refine vv_goto (tgt := 43) F zd_PA_longestChain_96 rfl ?_
      refine vv_locals (lv' := [(0, .ref y), (1, .int (iI v)), (2, .int (iI i)), (3, .int (iI (cN (H (Ls i.toNat).toNat) 192 : Int))), (4, .int (iI (j + 1)))]) [0, 1, 2, 3, 4] rfl ?_
      exact ih (j + 1) (va_up C i.toNat (max (C i.toNat) (1 + (C (Nb (g j.toNat).toNat).toNat)))) (by omega) (⟨by omega, chn_up hI.2.1, by
      rw [show (j + 1).toNat = j.toNat + 1 by omega, hp7]
      exact chq_put hI.2.1 hI.2.2 hp2 hp3 (by rw [← hp7]; omega) (by rw [← hp7]; omega)⟩)

set_option maxHeartbeats 4000000 in
set_option maxRecDepth 100000 in
theorem lp_PA_lc {p : Program} {l : Launch} {e : Env} {s : State} {m : MethodId} {args : Array Value} {below : List Frame} {meth : Method} {c : Code} {A : Nat → Prop} {Q : State → Prop} {G : vv_G} (F : vv_F p s m args meth c zc_PA_longestChain "ClauseGraph$Parts" "longestChain" (some .int) G A 6) (y : Nat) (wt : Nat) (cn : Nat) (sm : Nat) (gs : Nat) (nb : Nat) (ls : Nat) (x : Nat) (w : Nat) (go : Nat) (ta : Nat) (o : Nat) (ah : Nat) (ab : Nat) (bh : Nat) (bb : Nat) (so : Nat) (cs : Int) (mn : Int) (ac : Int) (rk : Bool) (n : Int) (ch : Int) (H : Nat → Nat → Bool) (K : Nat → Nat → Bool) (f : Nat → Int) (Nb : Nat → Int) (Ls : Nat → Int) (B : Nat → Nat → Bool) (v : Int) (hn : 0 ≤ n ∧ n ≤ 160) (hc : cl B n.toNat H K) (hN : numC n.toNat H Nb Ls mn) (hv : 0 ≤ v ∧ v < mn)
    (k : ∀ (C : Nat → Int) (g : Nat → Int), ((v - 1) < mn ∧ chn H Nb Ls mn ((v - 1) + 1) C) → vv_V p l e { frames := 4, cells := 0, slots := 0, locals := 92 } s m args below meth c G A 6 Q 105 [(0, .ref y), (1, .int (iI v)), (2, .int (iI (v - 1)))] [] [ceO 3 y [.ref wt, .ref cn, .ref sm, .ref gs, .int (iI cs), .ref x, .ref nb, .ref ls, .int (iI mn)], ceI G cn 160 C, ceI G sm 160 g, ceI G nb 160 Nb, ceI G ls 160 Ls, ceO 2 x [.ref w, .ref go, .int (iI ac), .int (iI (bZ rk)), .ref ta, .ref o, .int (iI n), .int (iI ch)], ceO 4 o [.ref ah, .ref bh, .ref so], ceO 5 ah [.ref ab], ceJ G ab 480 (tw H), ceO 5 bh [.ref bb], ceJ G bb 480 (tw K), ceI G so 160 f] 0 0)  :
    ∀ (d : Nat) (i : Int) (C : Nat → Int) (g : Nat → Int), i = (v - 1) + (d : Int) → (i < mn ∧ chn H Nb Ls mn (i + 1) C) → vv_V p l e { frames := 4, cells := 0, slots := 0, locals := 92 } s m args below meth c G A 6 Q 7 [(0, .ref y), (1, .int (iI v)), (2, .int (iI i))] [] [ceO 3 y [.ref wt, .ref cn, .ref sm, .ref gs, .int (iI cs), .ref x, .ref nb, .ref ls, .int (iI mn)], ceI G cn 160 C, ceI G sm 160 g, ceI G nb 160 Nb, ceI G ls 160 Ls, ceO 2 x [.ref w, .ref go, .int (iI ac), .int (iI (bZ rk)), .ref ta, .ref o, .int (iI n), .int (iI ch)], ceO 4 o [.ref ah, .ref bh, .ref so], ceO 5 ah [.ref ab], ceJ G ab 480 (tw H), ceO 5 bh [.ref bb], ceJ G bb 480 (tw K), ceI G so 160 f] 0 0 := by
  intro d
  induction d with
  | zero =>
    intro i C g hd hI
    have hz : i = (v - 1) := by omega
    subst hz
    obtain ⟨k1, k2, k3, k4⟩ := numC_in hN
    refine vv_iload_n F zd_PA_longestChain_7 rfl 2 rfl ?_
    refine vv_iload_n F zd_PA_longestChain_8 rfl 1 rfl ?_
    refine vv_icmp_lt (tgt := 105) F zd_PA_longestChain_9 rfl (by first | exact ⟨by omega, by omega⟩) (by first | exact ⟨by omega, by omega⟩) (fun _ => ?_) (fun h9 => absurd h9 (by omega))
    exact k C g hI
  | succ d ih =>
    intro i C g hd hI
    obtain ⟨k1, k2, k3, k4⟩ := numC_in hN
    have hli := k2 i.toNat (by omega)
    refine vv_iload_n F zd_PA_longestChain_7 rfl 2 rfl ?_
    refine vv_iload_n F zd_PA_longestChain_8 rfl 1 rfl ?_
    refine vv_icmp_lt (tgt := 105) F zd_PA_longestChain_9 rfl (by first | exact ⟨by omega, by omega⟩) (by first | exact ⟨by omega, by omega⟩) (fun h9 => absurd h9 (by omega)) (fun _ => ?_)
    refine vv_aload_n F zd_PA_longestChain_12 rfl 0 rfl ?_
    refine vv_get F zd_PA_longestChain_13 zf_PA 0 rfl rfl 1 (by decide) zw_146 rfl ?_
    refine vv_iload_n F zd_PA_longestChain_16 rfl 2 rfl ?_
    refine vv_iconst F zd_PA_longestChain_17 ?_
    refine vv_iast (x := 1) (ws' := [ceO 3 y [.ref wt, .ref cn, .ref sm, .ref gs, .int (iI cs), .ref x, .ref nb, .ref ls, .int (iI mn)], ceI G cn 160 (va_up C i.toNat 1), ceI G sm 160 g, ceI G nb 160 Nb, ceI G ls 160 Ls, ceO 2 x [.ref w, .ref go, .int (iI ac), .int (iI (bZ rk)), .ref ta, .ref o, .int (iI n), .int (iI ch)], ceO 4 o [.ref ah, .ref bh, .ref so], ceO 5 ah [.ref ab], ceJ G ab 480 (tw H), ceO 5 bh [.ref bb], ceJ G bb 480 (tw K), ceI G so 160 f]) F zd_PA_longestChain_18 1 rfl ⟨by omega, by omega⟩ (by decide) rfl ?_
    refine vv_aload_n F zd_PA_longestChain_19 rfl 0 rfl ?_
    refine vv_get F zd_PA_longestChain_20 zf_PA 0 rfl rfl 5 (by decide) zw_151 rfl ?_
    refine vv_get F zd_PA_longestChain_23 zf_NE 5 rfl rfl 5 (by decide) zw_122 rfl ?_
    refine vv_aload_n F zd_PA_longestChain_26 rfl 0 rfl ?_
    refine vv_get F zd_PA_longestChain_27 zf_PA 0 rfl rfl 7 (by decide) zw_154 rfl ?_
    refine vv_iload_n F zd_PA_longestChain_30 rfl 2 rfl ?_
    refine vv_iald F zd_PA_longestChain_31 4 rfl ⟨by omega, by omega⟩ (by decide) ?_
    refine vv_aload_n F zd_PA_longestChain_32 rfl 0 rfl ?_
    refine vv_get F zd_PA_longestChain_33 zf_PA 0 rfl rfl 2 (by decide) zw_147 rfl ?_
    refine vv_callV (q0 := 6) (As := [.int (iI (Ls i.toNat)), .ref sm]) (rest := []) (wr := [ceO 3 y [.ref wt, .ref cn, .ref sm, .ref gs, .int (iI cs), .ref x, .ref nb, .ref ls, .int (iI mn)], ceI G cn 160 (va_up C i.toNat 1), ceI G nb 160 Nb, ceI G ls 160 Ls, ceO 2 x [.ref w, .ref go, .int (iI ac), .int (iI (bZ rk)), .ref ta, .ref o, .int (iI n), .int (iI ch)]]) F (cn_RE_listAhead l G o ah ab bh bb so H K f (Ls i.toNat) sm g (cl_wf hc (by omega)).1 ⟨by omega, by omega⟩) zm_RE_listAhead ⟨zw_329, zw_330⟩ zw_328 zd_PA_longestChain_36 ⟨by decide, by decide⟩ ⟨by decide, by decide⟩ [6, 7, 8, 9, 10, 11, 2] [0, 1, 3, 4, 5] rfl rfl ⟨rfl, rfl, by decide⟩ rfl rfl rfl rfl (Nat.le_of_ble_eq_true rfl) (fun v9 w9 hp9 => ?_)
    obtain ⟨g2_1, hf1_0, rfl, rfl⟩ := hp9
    refine vv_thenE (ws' := [ceO 3 y [.ref wt, .ref cn, .ref sm, .ref gs, .int (iI cs), .ref x, .ref nb, .ref ls, .int (iI mn)], ceI G cn 160 (va_up C i.toNat 1), ceI G sm 160 g2_1, ceI G nb 160 Nb, ceI G ls 160 Ls, ceO 2 x [.ref w, .ref go, .int (iI ac), .int (iI (bZ rk)), .ref ta, .ref o, .int (iI n), .int (iI ch)], ceO 4 o [.ref ah, .ref bh, .ref so], ceO 5 ah [.ref ab], ceJ G ab 480 (tw H), ceO 5 bh [.ref bb], ceJ G bb 480 (tw K), ceI G so 160 f]) (st' := [.int (iI (cN (H (Ls i.toNat).toNat) 192 : Int))]) (kc' := 0) (ks' := 0) [0, 1, 11, 2, 3, 4, 5, 6, 7, 8, 9, 10] rfl rfl rfl ?_
    refine vv_istore_n (lv' := [(0, .ref y), (1, .int (iI v)), (2, .int (iI i)), (3, .int (iI (cN (H (Ls i.toNat).toNat) 192 : Int)))]) F zd_PA_longestChain_39 rfl (by decide) [1, 2, 3, 0] rfl ?_
    refine vv_iconst F zd_PA_longestChain_40 ?_
    refine vv_istore (lv' := [(0, .ref y), (1, .int (iI v)), (2, .int (iI i)), (3, .int (iI (cN (H (Ls i.toNat).toNat) 192 : Int))), (4, .int (iI 0))]) F zd_PA_longestChain_41 (by decide) [1, 2, 3, 4, 0] rfl ?_
    refine lp_PA_lc1 F y wt cn sm gs nb ls x w go ta o ah ab bh bb so cs mn ac rk n ch H K f Nb Ls B v i g2_1 _ hn hc hN ⟨by omega, by omega⟩ hf1_0 (fun C9 hJ => ?_) (cN (H (Ls i.toNat).toNat) 192) 0 (va_up C i.toNat 1) (by omega) ⟨by omega, chn_up (by rw [show ((i.toNat : Nat) : Int) = i by omega]; exact hI.2), chq_0 (by omega)⟩
    refine vv_iinc (j := 2) (lv' := [(0, .ref y), (1, .int (iI v)), (2, .int (iI (i + (-1)))), (3, .int (iI (cN (H (Ls i.toNat).toNat) 192 : Int))), (4, .int (iI (cN (H (Ls i.toNat).toNat) 192 : Int)))]) F zd_PA_longestChain_99 rfl (by decide) [1, 2, 0, 3, 4] rfl ?_
    refine vv_goto (tgt := 7) F zd_PA_longestChain_102 rfl ?_
    refine vv_locals (lv' := [(0, .ref y), (1, .int (iI v)), (2, .int (iI (i + (-1))))]) [0, 1, 2] rfl ?_
    exact ih (i - 1) C9 g2_1 (by omega) (⟨by omega, (by
      have h9 := chq_end (cl_wf hc (by omega)).1 hJ.2.1 hJ.2.2
      rw [show i - 1 + 1 = ((i.toNat : Nat) : Int) by omega]
      exact h9)⟩)

set_option maxHeartbeats 4000000 in
set_option maxRecDepth 100000 in
theorem cn_PA_longestChain (l : Launch) (G : vv_G) (y : Nat) (wt : Nat) (cn : Nat) (sm : Nat) (gs : Nat) (nb : Nat) (ls : Nat) (x : Nat) (w : Nat) (go : Nat) (ta : Nat) (o : Nat) (ah : Nat) (ab : Nat) (bh : Nat) (bb : Nat) (so : Nat) (cs : Int) (mn : Int) (ac : Int) (rk : Bool) (n : Int) (ch : Int) (H : Nat → Nat → Bool) (K : Nat → Nat → Bool) (f : Nat → Int) (Nb : Nat → Int) (Ls : Nat → Int) (B : Nat → Nat → Bool) (v : Int) (C : Nat → Int) (g : Nat → Int) (hn : 0 ≤ n ∧ n ≤ 160) (hc : cl B n.toNat H K) (hN : numC n.toNat H Nb Ls mn) (hv : 0 ≤ v ∧ v < mn) :
    vv_C l zy_PA_longestChain zc_PA_longestChain 6 (some .int) { frames := 4, cells := 0, slots := 0, locals := 92 } G [.ref y, .int (iI v)] [ceO 3 y [.ref wt, .ref cn, .ref sm, .ref gs, .int (iI cs), .ref x, .ref nb, .ref ls, .int (iI mn)], ceI G cn 160 C, ceI G sm 160 g, ceI G nb 160 Nb, ceI G ls 160 Ls, ceO 2 x [.ref w, .ref go, .int (iI ac), .int (iI (bZ rk)), .ref ta, .ref o, .int (iI n), .int (iI ch)], ceO 4 o [.ref ah, .ref bh, .ref so], ceO 5 ah [.ref ab], ceJ G ab 480 (tw H), ceO 5 bh [.ref bb], ceJ G bb 480 (tw K), ceI G so 160 f] (fun v7 w7 => ∃ (C2 : Nat → Int) (g2 : Nat → Int), (chn H Nb Ls mn v C2) ∧ v7 = some (.int (iI (C2 v.toNat))) ∧ w7 = [ceO 3 y [.ref wt, .ref cn, .ref sm, .ref gs, .int (iI cs), .ref x, .ref nb, .ref ls, .int (iI mn)], ceI G cn 160 C2, ceI G sm 160 g2, ceI G nb 160 Nb, ceI G ls 160 Ls, ceO 2 x [.ref w, .ref go, .int (iI ac), .int (iI (bZ rk)), .ref ta, .ref o, .int (iI n), .int (iI ch)], ceO 4 o [.ref ah, .ref bh, .ref so], ceO 5 ah [.ref ab], ceJ G ab 480 (tw H), ceO 5 bh [.ref bb], ceJ G bb 480 (tw K), ceI G so 160 f]) := by
  refine vv_met (by decide +kernel) (Nat.le_of_ble_eq_true rfl) rfl ?_
  intro p e s m args below meth c A F
  refine vv_aload_n F zd_PA_longestChain_0 rfl 0 rfl ?_
  refine vv_get F zd_PA_longestChain_1 zf_PA 0 rfl rfl 8 (by decide) zw_156 rfl ?_
  refine vv_iconst F zd_PA_longestChain_4 ?_
  refine vv_isub F zd_PA_longestChain_5 ?_
  refine vv_istore_n (lv' := [(0, .ref y), (1, .int (iI v)), (2, .int (iI (mn - 1)))]) F zd_PA_longestChain_6 rfl (by decide) [1, 2, 0] rfl ?_
  obtain ⟨k1, k2, k3, k4⟩ := numC_in hN
  refine lp_PA_lc F y wt cn sm gs nb ls x w go ta o ah ab bh bb so cs mn ac rk n ch H K f Nb Ls B v hn hc hN hv (fun C2 g2 hI => ?_) (mn - v).toNat (mn - 1) C g (by omega) ⟨by omega, fun c h1 h2 => by omega⟩
  have h9 : chn H Nb Ls mn v C2 := by have := hI.2; rwa [show v - 1 + 1 = v by omega] at this
  refine vv_aload_n F zd_PA_longestChain_105 rfl 0 rfl ?_
  refine vv_get F zd_PA_longestChain_106 zf_PA 0 rfl rfl 1 (by decide) zw_146 rfl ?_
  refine vv_iload_n F zd_PA_longestChain_109 rfl 1 rfl ?_
  refine vv_iald F zd_PA_longestChain_110 1 rfl ⟨by omega, by omega⟩ (by decide) ?_
  exact vv_iret F zd_PA_longestChain_111 ⟨C2, g2, h9, rfl, rfl⟩

set_option maxHeartbeats 4000000 in
set_option maxRecDepth 100000 in
theorem lp_PA_at {p : Program} {l : Launch} {e : Env} {s : State} {m : MethodId} {args : Array Value} {below : List Frame} {meth : Method} {c : Code} {A : Nat → Prop} {Q : State → Prop} {G : vv_G} (F : vv_F p s m args meth c zc_PA_arcsToOnePart "ClauseGraph$Parts" "arcsToOnePart" (some .int) G A 5) (y : Nat) (wt : Nat) (cn : Nat) (sm : Nat) (gs : Nat) (nb : Nat) (ls : Nat) (x : Nat) (w : Nat) (go : Nat) (ta : Nat) (o : Nat) (ah : Nat) (ab : Nat) (bh : Nat) (bb : Nat) (so : Nat) (cs : Int) (mn : Int) (ac : Int) (rk : Bool) (n : Int) (ch : Int) (H : Nat → Nat → Bool) (K : Nat → Nat → Bool) (f : Nat → Int) (Ls : Nat → Int) (hm : 0 ≤ mn ∧ mn ≤ 160) (hLs : ∀ c : Nat, (c : Int) < mn → 0 ≤ Ls c ∧ Ls c < 160)
    (k : ∀ (z1 : Int) (z2 : Int), (0 ≤ mn ∧ z1 = (cN (fun c => decide (cN (K (Ls c).toNat) 192 = cN (fun p => H (Ls c).toNat p && K (Ls c).toNat p) 192)) mn.toNat : Int) ∧ z2 = (cN (fun c => decide (cN (H (Ls c).toNat) 192 = cN (fun p => H (Ls c).toNat p && K (Ls c).toNat p) 192)) mn.toNat : Int)) → vv_V p l e { frames := 4, cells := 0, slots := 0, locals := 88 } s m args below meth c G A 5 Q 85 [(0, .ref y), (1, .int (iI z1)), (2, .int (iI z2)), (3, .int (iI mn))] [] [ceO 3 y [.ref wt, .ref cn, .ref sm, .ref gs, .int (iI cs), .ref x, .ref nb, .ref ls, .int (iI mn)], ceI G ls 160 Ls, ceO 2 x [.ref w, .ref go, .int (iI ac), .int (iI (bZ rk)), .ref ta, .ref o, .int (iI n), .int (iI ch)], ceO 4 o [.ref ah, .ref bh, .ref so], ceO 5 ah [.ref ab], ceJ G ab 480 (tw H), ceO 5 bh [.ref bb], ceJ G bb 480 (tw K), ceI G so 160 f] 0 0)  :
    ∀ (d : Nat) (i : Int) (z1 : Int) (z2 : Int), i + (d : Int) = mn → (0 ≤ i ∧ z1 = (cN (fun c => decide (cN (K (Ls c).toNat) 192 = cN (fun p => H (Ls c).toNat p && K (Ls c).toNat p) 192)) i.toNat : Int) ∧ z2 = (cN (fun c => decide (cN (H (Ls c).toNat) 192 = cN (fun p => H (Ls c).toNat p && K (Ls c).toNat p) 192)) i.toNat : Int)) → vv_V p l e { frames := 4, cells := 0, slots := 0, locals := 88 } s m args below meth c G A 5 Q 16 [(0, .ref y), (1, .int (iI z1)), (2, .int (iI z2)), (3, .int (iI i))] [] [ceO 3 y [.ref wt, .ref cn, .ref sm, .ref gs, .int (iI cs), .ref x, .ref nb, .ref ls, .int (iI mn)], ceI G ls 160 Ls, ceO 2 x [.ref w, .ref go, .int (iI ac), .int (iI (bZ rk)), .ref ta, .ref o, .int (iI n), .int (iI ch)], ceO 4 o [.ref ah, .ref bh, .ref so], ceO 5 ah [.ref ab], ceJ G ab 480 (tw H), ceO 5 bh [.ref bb], ceJ G bb 480 (tw K), ceI G so 160 f] 0 0 := by
  intro d
  induction d with
  | zero =>
    intro i z1 z2 hd hI
    have hz : i = mn := by omega
    subst hz
    refine vv_iload_n F zd_PA_arcsToOnePart_16 rfl 3 rfl ?_
    refine vv_aload_n F zd_PA_arcsToOnePart_17 rfl 0 rfl ?_
    refine vv_get F zd_PA_arcsToOnePart_18 zf_PA 0 rfl rfl 8 (by decide) zw_156 rfl ?_
    refine vv_icmp_ge (tgt := 85) F zd_PA_arcsToOnePart_21 rfl (by first | exact ⟨by omega, by omega⟩) (by first | exact ⟨by omega, by omega⟩) (fun _ => ?_) (fun h9 => absurd h9 (by omega))
    exact k z1 z2 hI
  | succ d ih =>
    intro i z1 z2 hd hI
    have hli := hLs i.toNat (by omega)
    have c1 := cN_le (K (Ls i.toNat).toNat) 192
    have c2 := cN_le (H (Ls i.toNat).toNat) 192
    have c3 := cN_le (fun p => H (Ls i.toNat).toNat p && K (Ls i.toNat).toNat p) 192
    have e1 := cN_s (fun c => decide (cN (K (Ls c).toNat) 192 = cN (fun p => H (Ls c).toNat p && K (Ls c).toNat p) 192)) i.toNat
    have e2 := cN_s (fun c => decide (cN (H (Ls c).toNat) 192 = cN (fun p => H (Ls c).toNat p && K (Ls c).toNat p) 192)) i.toNat
    rw [← show (i + 1).toNat = i.toNat + 1 by omega] at e1 e2
    refine vv_iload_n F zd_PA_arcsToOnePart_16 rfl 3 rfl ?_
    refine vv_aload_n F zd_PA_arcsToOnePart_17 rfl 0 rfl ?_
    refine vv_get F zd_PA_arcsToOnePart_18 zf_PA 0 rfl rfl 8 (by decide) zw_156 rfl ?_
    refine vv_icmp_ge (tgt := 85) F zd_PA_arcsToOnePart_21 rfl (by first | exact ⟨by omega, by omega⟩) (by first | exact ⟨by omega, by omega⟩) (fun h9 => absurd h9 (by omega)) (fun _ => ?_)
    refine vv_aload_n F zd_PA_arcsToOnePart_24 rfl 0 rfl ?_
    refine vv_iload_n F zd_PA_arcsToOnePart_25 rfl 3 rfl ?_
    refine vv_callV (q0 := 0) (As := [.int (iI i)]) (rest := []) (wr := []) F (cn_PA_sizeOf l G y wt cn sm gs nb ls x w go ta o ah ab bh bb so cs mn ac rk n ch H K f Ls i ⟨by omega, by omega⟩ ⟨by omega, by omega⟩) zm_PA_sizeOf ⟨zw_345, zw_346⟩ zw_344 zd_PA_arcsToOnePart_26 ⟨by decide, by decide⟩ ⟨by decide, by decide⟩ [0, 1, 2, 3, 4, 5, 6, 7, 8] [] rfl rfl ⟨rfl, rfl, by decide⟩ rfl rfl rfl rfl (Nat.le_of_ble_eq_true rfl) (vv_then (ws' := [ceO 3 y [.ref wt, .ref cn, .ref sm, .ref gs, .int (iI cs), .ref x, .ref nb, .ref ls, .int (iI mn)], ceI G ls 160 Ls, ceO 2 x [.ref w, .ref go, .int (iI ac), .int (iI (bZ rk)), .ref ta, .ref o, .int (iI n), .int (iI ch)], ceO 4 o [.ref ah, .ref bh, .ref so], ceO 5 ah [.ref ab], ceJ G ab 480 (tw H), ceO 5 bh [.ref bb], ceJ G bb 480 (tw K), ceI G so 160 f]) (st' := [.int (iI (cN (fun p => H (Ls i.toNat).toNat p && K (Ls i.toNat).toNat p) 192 : Int))]) [0, 1, 2, 3, 4, 5, 6, 7, 8] rfl rfl rfl ?_)
    refine vv_istore (lv' := [(0, .ref y), (1, .int (iI z1)), (2, .int (iI z2)), (3, .int (iI i)), (4, .int (iI (cN (fun p => H (Ls i.toNat).toNat p && K (Ls i.toNat).toNat p) 192 : Int)))]) F zd_PA_arcsToOnePart_29 (by decide) [1, 2, 3, 4, 0] rfl ?_
    refine vv_aload_n F zd_PA_arcsToOnePart_31 rfl 0 rfl ?_
    refine vv_get F zd_PA_arcsToOnePart_32 zf_PA 0 rfl rfl 5 (by decide) zw_151 rfl ?_
    refine vv_get F zd_PA_arcsToOnePart_35 zf_NE 2 rfl rfl 5 (by decide) zw_122 rfl ?_
    refine vv_aload_n F zd_PA_arcsToOnePart_38 rfl 0 rfl ?_
    refine vv_get F zd_PA_arcsToOnePart_39 zf_PA 0 rfl rfl 7 (by decide) zw_154 rfl ?_
    refine vv_iload_n F zd_PA_arcsToOnePart_42 rfl 3 rfl ?_
    refine vv_iald F zd_PA_arcsToOnePart_43 1 rfl ⟨by omega, by omega⟩ (by decide) ?_
    refine vv_callV (q0 := 3) (As := [.int (iI (Ls i.toNat))]) (rest := []) (wr := [ceO 3 y [.ref wt, .ref cn, .ref sm, .ref gs, .int (iI cs), .ref x, .ref nb, .ref ls, .int (iI mn)], ceI G ls 160 Ls, ceO 2 x [.ref w, .ref go, .int (iI ac), .int (iI (bZ rk)), .ref ta, .ref o, .int (iI n), .int (iI ch)]]) F (cn_RE_countBehind l G o ah ab bh bb so H K f (Ls i.toNat) ⟨by omega, by omega⟩) zm_RE_countBehind ⟨zw_300, zw_301⟩ zw_299 zd_PA_arcsToOnePart_44 ⟨by decide, by decide⟩ ⟨by decide, by decide⟩ [3, 4, 5, 6, 7, 8] [0, 1, 2] rfl rfl ⟨rfl, rfl, by decide⟩ rfl rfl rfl rfl (Nat.le_of_ble_eq_true rfl) (vv_then (ws' := [ceO 3 y [.ref wt, .ref cn, .ref sm, .ref gs, .int (iI cs), .ref x, .ref nb, .ref ls, .int (iI mn)], ceI G ls 160 Ls, ceO 2 x [.ref w, .ref go, .int (iI ac), .int (iI (bZ rk)), .ref ta, .ref o, .int (iI n), .int (iI ch)], ceO 4 o [.ref ah, .ref bh, .ref so], ceO 5 ah [.ref ab], ceJ G ab 480 (tw H), ceO 5 bh [.ref bb], ceJ G bb 480 (tw K), ceI G so 160 f]) (st' := [.int (iI (cN (K (Ls i.toNat).toNat) 192 : Int))]) [0, 1, 2, 3, 4, 5, 6, 7, 8] rfl rfl rfl ?_)
    refine vv_iload F zd_PA_arcsToOnePart_47 4 rfl ?_
    refine vv_icmp_ne (tgt := 55) F zd_PA_arcsToOnePart_49 rfl (by first | exact ⟨by omega, by omega⟩) (by first | exact ⟨by omega, by omega⟩) (fun h1 => ?_) (fun h1 => ?_)
    · refine vv_aload_n F zd_PA_arcsToOnePart_55 rfl 0 rfl ?_
      refine vv_get F zd_PA_arcsToOnePart_56 zf_PA 0 rfl rfl 5 (by decide) zw_151 rfl ?_
      refine vv_get F zd_PA_arcsToOnePart_59 zf_NE 2 rfl rfl 5 (by decide) zw_122 rfl ?_
      refine vv_aload_n F zd_PA_arcsToOnePart_62 rfl 0 rfl ?_
      refine vv_get F zd_PA_arcsToOnePart_63 zf_PA 0 rfl rfl 7 (by decide) zw_154 rfl ?_
      refine vv_iload_n F zd_PA_arcsToOnePart_66 rfl 3 rfl ?_
      refine vv_iald F zd_PA_arcsToOnePart_67 1 rfl ⟨by omega, by omega⟩ (by decide) ?_
      refine vv_callV (q0 := 3) (As := [.int (iI (Ls i.toNat))]) (rest := []) (wr := [ceO 3 y [.ref wt, .ref cn, .ref sm, .ref gs, .int (iI cs), .ref x, .ref nb, .ref ls, .int (iI mn)], ceI G ls 160 Ls, ceO 2 x [.ref w, .ref go, .int (iI ac), .int (iI (bZ rk)), .ref ta, .ref o, .int (iI n), .int (iI ch)]]) F (cn_RE_countAhead l G o ah ab bh bb so H K f (Ls i.toNat) ⟨by omega, by omega⟩) zm_RE_countAhead ⟨zw_349, zw_350⟩ zw_348 zd_PA_arcsToOnePart_68 ⟨by decide, by decide⟩ ⟨by decide, by decide⟩ [3, 4, 5, 6, 7, 8] [0, 1, 2] rfl rfl ⟨rfl, rfl, by decide⟩ rfl rfl rfl rfl (Nat.le_of_ble_eq_true rfl) (vv_then (ws' := [ceO 3 y [.ref wt, .ref cn, .ref sm, .ref gs, .int (iI cs), .ref x, .ref nb, .ref ls, .int (iI mn)], ceI G ls 160 Ls, ceO 2 x [.ref w, .ref go, .int (iI ac), .int (iI (bZ rk)), .ref ta, .ref o, .int (iI n), .int (iI ch)], ceO 4 o [.ref ah, .ref bh, .ref so], ceO 5 ah [.ref ab], ceJ G ab 480 (tw H), ceO 5 bh [.ref bb], ceJ G bb 480 (tw K), ceI G so 160 f]) (st' := [.int (iI (cN (H (Ls i.toNat).toNat) 192 : Int))]) [0, 1, 2, 3, 4, 5, 6, 7, 8] rfl rfl rfl ?_)
      refine vv_iload F zd_PA_arcsToOnePart_71 4 rfl ?_
      refine vv_icmp_ne (tgt := 79) F zd_PA_arcsToOnePart_73 rfl (by first | exact ⟨by omega, by omega⟩) (by first | exact ⟨by omega, by omega⟩) (fun h2 => ?_) (fun h2 => ?_)
      · refine vv_iinc (j := 3) (lv' := [(0, .ref y), (1, .int (iI z1)), (2, .int (iI z2)), (3, .int (iI (i + 1))), (4, .int (iI (cN (fun p => H (Ls i.toNat).toNat p && K (Ls i.toNat).toNat p) 192 : Int)))]) F zd_PA_arcsToOnePart_79 rfl (by decide) [1, 2, 3, 0, 4] rfl ?_
        refine vv_goto (tgt := 16) F zd_PA_arcsToOnePart_82 rfl ?_
        refine vv_locals (lv' := [(0, .ref y), (1, .int (iI z1)), (2, .int (iI z2)), (3, .int (iI (i + 1)))]) [0, 1, 2, 3] rfl ?_
        exact ih (i + 1) z1 z2 (by omega) (⟨by omega, by
      rw [if_neg (by simp; omega)] at e1; omega, by
      rw [if_neg (by simp; omega)] at e2; omega⟩)
      · refine vv_iinc (j := 2) (lv' := [(0, .ref y), (1, .int (iI z1)), (2, .int (iI (z2 + 1))), (3, .int (iI i)), (4, .int (iI (cN (fun p => H (Ls i.toNat).toNat p && K (Ls i.toNat).toNat p) 192 : Int)))]) F zd_PA_arcsToOnePart_76 rfl (by decide) [1, 2, 0, 3, 4] rfl ?_
        refine vv_iinc (j := 3) (lv' := [(0, .ref y), (1, .int (iI z1)), (2, .int (iI (z2 + 1))), (3, .int (iI (i + 1))), (4, .int (iI (cN (fun p => H (Ls i.toNat).toNat p && K (Ls i.toNat).toNat p) 192 : Int)))]) F zd_PA_arcsToOnePart_79 rfl (by decide) [1, 2, 3, 0, 4] rfl ?_
        refine vv_goto (tgt := 16) F zd_PA_arcsToOnePart_82 rfl ?_
        refine vv_locals (lv' := [(0, .ref y), (1, .int (iI z1)), (2, .int (iI (z2 + 1))), (3, .int (iI (i + 1)))]) [0, 1, 2, 3] rfl ?_
        exact ih (i + 1) z1 (z2 + 1) (by omega) (⟨by omega, by
      rw [if_neg (by simp; omega)] at e1; omega, by
      rw [if_pos (decide_eq_true (by omega))] at e2; omega⟩)
    · refine vv_iinc (j := 1) (lv' := [(0, .ref y), (1, .int (iI (z1 + 1))), (2, .int (iI z2)), (3, .int (iI i)), (4, .int (iI (cN (fun p => H (Ls i.toNat).toNat p && K (Ls i.toNat).toNat p) 192 : Int)))]) F zd_PA_arcsToOnePart_52 rfl (by decide) [1, 0, 2, 3, 4] rfl ?_
      refine vv_aload_n F zd_PA_arcsToOnePart_55 rfl 0 rfl ?_
      refine vv_get F zd_PA_arcsToOnePart_56 zf_PA 0 rfl rfl 5 (by decide) zw_151 rfl ?_
      refine vv_get F zd_PA_arcsToOnePart_59 zf_NE 2 rfl rfl 5 (by decide) zw_122 rfl ?_
      refine vv_aload_n F zd_PA_arcsToOnePart_62 rfl 0 rfl ?_
      refine vv_get F zd_PA_arcsToOnePart_63 zf_PA 0 rfl rfl 7 (by decide) zw_154 rfl ?_
      refine vv_iload_n F zd_PA_arcsToOnePart_66 rfl 3 rfl ?_
      refine vv_iald F zd_PA_arcsToOnePart_67 1 rfl ⟨by omega, by omega⟩ (by decide) ?_
      refine vv_callV (q0 := 3) (As := [.int (iI (Ls i.toNat))]) (rest := []) (wr := [ceO 3 y [.ref wt, .ref cn, .ref sm, .ref gs, .int (iI cs), .ref x, .ref nb, .ref ls, .int (iI mn)], ceI G ls 160 Ls, ceO 2 x [.ref w, .ref go, .int (iI ac), .int (iI (bZ rk)), .ref ta, .ref o, .int (iI n), .int (iI ch)]]) F (cn_RE_countAhead l G o ah ab bh bb so H K f (Ls i.toNat) ⟨by omega, by omega⟩) zm_RE_countAhead ⟨zw_349, zw_350⟩ zw_348 zd_PA_arcsToOnePart_68 ⟨by decide, by decide⟩ ⟨by decide, by decide⟩ [3, 4, 5, 6, 7, 8] [0, 1, 2] rfl rfl ⟨rfl, rfl, by decide⟩ rfl rfl rfl rfl (Nat.le_of_ble_eq_true rfl) (vv_then (ws' := [ceO 3 y [.ref wt, .ref cn, .ref sm, .ref gs, .int (iI cs), .ref x, .ref nb, .ref ls, .int (iI mn)], ceI G ls 160 Ls, ceO 2 x [.ref w, .ref go, .int (iI ac), .int (iI (bZ rk)), .ref ta, .ref o, .int (iI n), .int (iI ch)], ceO 4 o [.ref ah, .ref bh, .ref so], ceO 5 ah [.ref ab], ceJ G ab 480 (tw H), ceO 5 bh [.ref bb], ceJ G bb 480 (tw K), ceI G so 160 f]) (st' := [.int (iI (cN (H (Ls i.toNat).toNat) 192 : Int))]) [0, 1, 2, 3, 4, 5, 6, 7, 8] rfl rfl rfl ?_)
      refine vv_iload F zd_PA_arcsToOnePart_71 4 rfl ?_
      refine vv_icmp_ne (tgt := 79) F zd_PA_arcsToOnePart_73 rfl (by first | exact ⟨by omega, by omega⟩) (by first | exact ⟨by omega, by omega⟩) (fun h3 => ?_) (fun h3 => ?_)
      · refine vv_iinc (j := 3) (lv' := [(0, .ref y), (1, .int (iI (z1 + 1))), (2, .int (iI z2)), (3, .int (iI (i + 1))), (4, .int (iI (cN (fun p => H (Ls i.toNat).toNat p && K (Ls i.toNat).toNat p) 192 : Int)))]) F zd_PA_arcsToOnePart_79 rfl (by decide) [1, 2, 3, 0, 4] rfl ?_
        refine vv_goto (tgt := 16) F zd_PA_arcsToOnePart_82 rfl ?_
        refine vv_locals (lv' := [(0, .ref y), (1, .int (iI (z1 + 1))), (2, .int (iI z2)), (3, .int (iI (i + 1)))]) [0, 1, 2, 3] rfl ?_
        exact ih (i + 1) (z1 + 1) z2 (by omega) (⟨by omega, by
      rw [if_pos (decide_eq_true (by omega))] at e1; omega, by
      rw [if_neg (by simp; omega)] at e2; omega⟩)
      · refine vv_iinc (j := 2) (lv' := [(0, .ref y), (1, .int (iI (z1 + 1))), (2, .int (iI (z2 + 1))), (3, .int (iI i)), (4, .int (iI (cN (fun p => H (Ls i.toNat).toNat p && K (Ls i.toNat).toNat p) 192 : Int)))]) F zd_PA_arcsToOnePart_76 rfl (by decide) [1, 2, 0, 3, 4] rfl ?_
        refine vv_iinc (j := 3) (lv' := [(0, .ref y), (1, .int (iI (z1 + 1))), (2, .int (iI (z2 + 1))), (3, .int (iI (i + 1))), (4, .int (iI (cN (fun p => H (Ls i.toNat).toNat p && K (Ls i.toNat).toNat p) 192 : Int)))]) F zd_PA_arcsToOnePart_79 rfl (by decide) [1, 2, 3, 0, 4] rfl ?_
        refine vv_goto (tgt := 16) F zd_PA_arcsToOnePart_82 rfl ?_
        refine vv_locals (lv' := [(0, .ref y), (1, .int (iI (z1 + 1))), (2, .int (iI (z2 + 1))), (3, .int (iI (i + 1)))]) [0, 1, 2, 3] rfl ?_
        exact ih (i + 1) (z1 + 1) (z2 + 1) (by omega) (⟨by omega, by
      rw [if_pos (decide_eq_true (by omega))] at e1; omega, by
      rw [if_pos (decide_eq_true (by omega))] at e2; omega⟩)

set_option maxHeartbeats 4000000 in
set_option maxRecDepth 100000 in
theorem cn_PA_arcsToOnePart (l : Launch) (G : vv_G) (y : Nat) (wt : Nat) (cn : Nat) (sm : Nat) (gs : Nat) (nb : Nat) (ls : Nat) (x : Nat) (w : Nat) (go : Nat) (ta : Nat) (o : Nat) (ah : Nat) (ab : Nat) (bh : Nat) (bb : Nat) (so : Nat) (cs : Int) (mn : Int) (ac : Int) (rk : Bool) (n : Int) (ch : Int) (H : Nat → Nat → Bool) (K : Nat → Nat → Bool) (f : Nat → Int) (Ls : Nat → Int) (hm : 0 ≤ mn ∧ mn ≤ 160) (hLs : ∀ c : Nat, (c : Int) < mn → 0 ≤ Ls c ∧ Ls c < 160) :
    vv_D l zy_PA_arcsToOnePart zc_PA_arcsToOnePart 5 (some .int) { frames := 4, cells := 0, slots := 0, locals := 88 } G [.ref y] [ceO 3 y [.ref wt, .ref cn, .ref sm, .ref gs, .int (iI cs), .ref x, .ref nb, .ref ls, .int (iI mn)], ceI G ls 160 Ls, ceO 2 x [.ref w, .ref go, .int (iI ac), .int (iI (bZ rk)), .ref ta, .ref o, .int (iI n), .int (iI ch)], ceO 4 o [.ref ah, .ref bh, .ref so], ceO 5 ah [.ref ab], ceJ G ab 480 (tw H), ceO 5 bh [.ref bb], ceJ G bb 480 (tw K), ceI G so 160 f] (some (.int (iI (aMis H K Ls mn)))) [ceO 3 y [.ref wt, .ref cn, .ref sm, .ref gs, .int (iI cs), .ref x, .ref nb, .ref ls, .int (iI mn)], ceI G ls 160 Ls, ceO 2 x [.ref w, .ref go, .int (iI ac), .int (iI (bZ rk)), .ref ta, .ref o, .int (iI n), .int (iI ch)], ceO 4 o [.ref ah, .ref bh, .ref so], ceO 5 ah [.ref ab], ceJ G ab 480 (tw H), ceO 5 bh [.ref bb], ceJ G bb 480 (tw K), ceI G so 160 f] := by
  refine vv_met (by decide +kernel) (Nat.le_of_ble_eq_true rfl) rfl ?_
  intro p e s m args below meth c A F
  refine vv_aload_n F zd_PA_arcsToOnePart_0 rfl 0 rfl ?_
  refine vv_get F zd_PA_arcsToOnePart_1 zf_PA 0 rfl rfl 8 (by decide) zw_156 rfl ?_
  refine vv_iconst F zd_PA_arcsToOnePart_4 ?_
  refine vv_icmp_ne (tgt := 10) F zd_PA_arcsToOnePart_5 rfl (by first | exact ⟨by omega, by omega⟩) (by decide) (fun h1 => ?_) (fun h1 => ?_)
  · refine vv_iconst F zd_PA_arcsToOnePart_10 ?_
    refine vv_istore_n (lv' := [(0, .ref y), (1, .int (iI 0))]) F zd_PA_arcsToOnePart_11 rfl (by decide) [1, 0] rfl ?_
    refine vv_iconst F zd_PA_arcsToOnePart_12 ?_
    refine vv_istore_n (lv' := [(0, .ref y), (1, .int (iI 0)), (2, .int (iI 0))]) F zd_PA_arcsToOnePart_13 rfl (by decide) [1, 2, 0] rfl ?_
    refine vv_iconst F zd_PA_arcsToOnePart_14 ?_
    refine vv_istore_n (lv' := [(0, .ref y), (1, .int (iI 0)), (2, .int (iI 0)), (3, .int (iI 0))]) F zd_PA_arcsToOnePart_15 rfl (by decide) [1, 2, 3, 0] rfl ?_
    refine lp_PA_at F y wt cn sm gs nb ls x w go ta o ah ab bh bb so cs mn ac rk n ch H K f Ls hm hLs (fun z1 z2 hI => ?_) mn.toNat 0 0 0 (by omega) ⟨by omega, rfl, rfl⟩
    obtain ⟨-, rfl, rfl⟩ := hI
    have b1 := cN_le (fun c => decide (cN (K (Ls c).toNat) 192 = cN (fun p => H (Ls c).toNat p && K (Ls c).toNat p) 192)) mn.toNat
    have b2 := cN_le (fun c => decide (cN (H (Ls c).toNat) 192 = cN (fun p => H (Ls c).toNat p && K (Ls c).toNat p) 192)) mn.toNat
    refine vv_iload_n F zd_PA_arcsToOnePart_85 rfl 1 rfl ?_
    refine vv_iload_n F zd_PA_arcsToOnePart_86 rfl 2 rfl ?_
    refine vv_max F zd_PA_arcsToOnePart_87 zw_352 (by first | exact ⟨by omega, by omega⟩) (by first | exact ⟨by omega, by omega⟩) zw_353 zw_16 zw_354 (Nat.le_of_ble_eq_true rfl) (by decide) (by decide) (by decide) (by decide) ?_
    exact vv_iret F zd_PA_arcsToOnePart_90 ⟨by unfold aMis; rw [if_neg h1], rfl⟩
  · refine vv_iconst F zd_PA_arcsToOnePart_8 ?_
    exact vv_iret F zd_PA_arcsToOnePart_9 ⟨by unfold aMis; rw [if_pos h1], rfl⟩

set_option maxHeartbeats 4000000 in
set_option maxRecDepth 100000 in
theorem cn_PA_init (l : Launch) (G : vv_G) (y : Nat)  :
    vv_C l zy_PA_init zc_PA_init 1 none { frames := 5, cells := 24, slots := 2910, locals := 107 } G [.ref y] [ceO 3 y [.null, .null, .null, .null, .int (iI 0), .null, .null, .null, .int (iI 0)]] (fun v7 w7 => ∃ (wt : Nat) (cn : Nat) (sm : Nat) (gs : Nat) (gb : Nat) (x : Nat) (w : Nat) (qa : Nat) (ra : Nat) (sa : Nat) (sb : Nat) (fa : Nat) (fb : Nat) (go : Nat) (ta : Nat) (tb : Nat) (o : Nat) (ah : Nat) (ab : Nat) (bh : Nat) (bb : Nat) (so : Nat) (nb : Nat) (ls : Nat), v7 = none ∧ w7 = [ceO 3 y [.ref wt, .ref cn, .ref sm, .ref gs, .int (iI 0), .ref x, .ref nb, .ref ls, .int (iI 0)], ceI G wt 160 (fun _ => 0), ceI G cn 160 (fun _ => 0), ceI G sm 160 (fun _ => 0), ceO 5 gs [.ref gb], ceJ G gb 3 (tw (fun _ _ => false)), ceO 2 x [.ref w, .ref go, .int (iI 0), .int (iI (bZ true)), .ref ta, .ref o, .int (iI 1), .int (iI (0 + 1))], ceO 6 w [.ref qa, .ref ra, .ref sa, .ref fa], ceI G qa 160 (fun _ => 0), ceI G ra 160 (fun _ => 0), ceO 5 sa [.ref sb], ceJ G sb 3 (tw (fun _ _ => false)), ceO 5 fa [.ref fb], ceJ G fb 3 (tw (fun _ _ => false)), ceI G go 160 (fun _ => 0), ceO 5 ta [.ref tb], ceJ G tb 480 (tw (fun _ _ => false)), ceO 4 o [.ref ah, .ref bh, .ref so], ceO 5 ah [.ref ab], ceJ G ab 480 (tw (idB 1)), ceO 5 bh [.ref bb], ceJ G bb 480 (tw (idB 1)), ceI G so 160 (fun _ => 0), ceI G nb 160 (fun _ => 0), ceI G ls 160 (fun _ => 0)]) := by
  refine vv_met (by decide +kernel) (Nat.le_of_ble_eq_true rfl) rfl ?_
  intro p e s m args below meth c A F
  refine vv_aload_n F zd_PA_init_0 rfl 0 rfl ?_
  refine vv_objInit F zd_PA_init_1 zw_32 zw_25 zw_26 (Nat.le_of_ble_eq_true rfl) (by decide) (by decide) ?_
  refine vv_aload_n F zd_PA_init_4 rfl 0 rfl ?_
  refine vv_sipush F zd_PA_init_5 (by decide) ?_
  refine vv_newaI (N := 160) F zd_PA_init_8 zw_43 rfl (by omega) (by decide) (by decide) (fun a1 => ?_)
  show vv_V _ _ _ _ _ _ _ _ _ _ _ _ _ _ _ [(0, .ref y)] [.ref a1, .ref y] [ceO 3 y [.null, .null, .null, .null, .int (iI 0), .null, .null, .null, .int (iI 0)], ceI G a1 160 (fun _ => 0)] 1 160
  refine vv_putF (v := .ref a1) (ws' := [ceO 3 y [.ref a1, .null, .null, .null, .int (iI 0), .null, .null, .null, .int (iI 0)], ceI G a1 160 (fun _ => 0)]) F zd_PA_init_10 zf_PA zt_PA_ok zn_PA 0 rfl rfl 0 (by decide) zw_145 rfl rfl rfl rfl (Nat.le_of_ble_eq_true rfl) rfl ?_
  refine vv_aload_n F zd_PA_init_13 rfl 0 rfl ?_
  refine vv_sipush F zd_PA_init_14 (by decide) ?_
  refine vv_newaI (N := 160) F zd_PA_init_17 zw_43 rfl (by omega) (by decide) (by decide) (fun a2 => ?_)
  show vv_V _ _ _ _ _ _ _ _ _ _ _ _ _ _ _ [(0, .ref y)] [.ref a2, .ref y] [ceO 3 y [.ref a1, .null, .null, .null, .int (iI 0), .null, .null, .null, .int (iI 0)], ceI G a1 160 (fun _ => 0), ceI G a2 160 (fun _ => 0)] 2 320
  refine vv_putF (v := .ref a2) (ws' := [ceO 3 y [.ref a1, .ref a2, .null, .null, .int (iI 0), .null, .null, .null, .int (iI 0)], ceI G a1 160 (fun _ => 0), ceI G a2 160 (fun _ => 0)]) F zd_PA_init_19 zf_PA zt_PA_ok zn_PA 0 rfl rfl 1 (by decide) zw_146 rfl rfl rfl rfl (Nat.le_of_ble_eq_true rfl) rfl ?_
  refine vv_aload_n F zd_PA_init_22 rfl 0 rfl ?_
  refine vv_sipush F zd_PA_init_23 (by decide) ?_
  refine vv_newaI (N := 160) F zd_PA_init_26 zw_43 rfl (by omega) (by decide) (by decide) (fun a3 => ?_)
  show vv_V _ _ _ _ _ _ _ _ _ _ _ _ _ _ _ [(0, .ref y)] [.ref a3, .ref y] [ceO 3 y [.ref a1, .ref a2, .null, .null, .int (iI 0), .null, .null, .null, .int (iI 0)], ceI G a1 160 (fun _ => 0), ceI G a2 160 (fun _ => 0), ceI G a3 160 (fun _ => 0)] 3 480
  refine vv_putF (v := .ref a3) (ws' := [ceO 3 y [.ref a1, .ref a2, .ref a3, .null, .int (iI 0), .null, .null, .null, .int (iI 0)], ceI G a1 160 (fun _ => 0), ceI G a2 160 (fun _ => 0), ceI G a3 160 (fun _ => 0)]) F zd_PA_init_28 zf_PA zt_PA_ok zn_PA 0 rfl rfl 2 (by decide) zw_147 rfl rfl rfl rfl (Nat.le_of_ble_eq_true rfl) rfl ?_
  refine vv_aload_n F zd_PA_init_31 rfl 0 rfl ?_
  refine vv_new (ci := 5) (fs := [.null]) F zd_PA_init_32 zf_TA zt_TA_ok zw_33 zw_34 zw_3 rfl (fun j hj => by rcases (show j = 0 by omega) with rfl <;> rfl) (by decide) (by decide) (fun a4 => ?_)
  show vv_V _ _ _ _ _ _ _ _ _ _ _ _ _ _ _ [(0, .ref y)] [.ref a4, .ref y] [ceO 3 y [.ref a1, .ref a2, .ref a3, .null, .int (iI 0), .null, .null, .null, .int (iI 0)], ceI G a1 160 (fun _ => 0), ceI G a2 160 (fun _ => 0), ceI G a3 160 (fun _ => 0), ceO 5 a4 [.null]] 4 481
  refine vv_dup F zd_PA_init_35 rfl ?_
  refine vv_iconst F zd_PA_init_36 ?_
  refine vv_callI (As := [.int (iI 1)]) (rest := [.ref a4, .ref y]) (wr := [ceO 3 y [.ref a1, .ref a2, .ref a3, .null, .int (iI 0), .null, .null, .null, .int (iI 0)], ceI G a1 160 (fun _ => 0), ceI G a2 160 (fun _ => 0), ceI G a3 160 (fun _ => 0)]) F (cn_TA_init1 l G a4) zm_TA_init ⟨rfl, zw_36⟩ zw_35 zd_PA_init_37 ⟨by decide, by decide⟩ ⟨by decide, by decide⟩ [4] [0, 1, 2, 3] rfl rfl ⟨rfl, rfl, by decide⟩ rfl rfl (Nat.le_of_ble_eq_true rfl) (fun v9 w9 hp9 => ?_)
  obtain ⟨b_5, rfl, rfl⟩ := hp9
  refine vv_thenE (ws' := [ceO 3 y [.ref a1, .ref a2, .ref a3, .null, .int (iI 0), .null, .null, .null, .int (iI 0)], ceI G a1 160 (fun _ => 0), ceI G a2 160 (fun _ => 0), ceI G a3 160 (fun _ => 0), ceO 5 a4 [.ref b_5], ceJ G b_5 3 (tw (fun _ _ => false))]) (st' := [.ref a4, .ref y]) (kc' := 5) (ks' := 484) [0, 1, 2, 3, 4, 5] rfl rfl rfl ?_
  refine vv_putF (v := .ref a4) (ws' := [ceO 3 y [.ref a1, .ref a2, .ref a3, .ref a4, .int (iI 0), .null, .null, .null, .int (iI 0)], ceI G a1 160 (fun _ => 0), ceI G a2 160 (fun _ => 0), ceI G a3 160 (fun _ => 0), ceO 5 a4 [.ref b_5], ceJ G b_5 3 (tw (fun _ _ => false))]) F zd_PA_init_40 zf_PA zt_PA_ok zn_PA 0 rfl rfl 3 (by decide) zw_148 rfl rfl rfl rfl (Nat.le_of_ble_eq_true rfl) rfl ?_
  refine vv_aload_n F zd_PA_init_43 rfl 0 rfl ?_
  refine vv_new (ci := 2) (fs := [.null, .null, .int (iI 0), .int (iI (bZ false)), .null, .null, .int (iI 0), .int (iI 0)]) F zd_PA_init_44 zf_NE zt_NE_ok zw_45 zw_46 zw_4 rfl (fun j hj => by rcases (show j = 0 ∨ j = 1 ∨ j = 2 ∨ j = 3 ∨ j = 4 ∨ j = 5 ∨ j = 6 ∨ j = 7 by omega) with rfl | rfl | rfl | rfl | rfl | rfl | rfl | rfl <;> rfl) (by decide) (by decide) (fun a6 => ?_)
  show vv_V _ _ _ _ _ _ _ _ _ _ _ _ _ _ _ [(0, .ref y)] [.ref a6, .ref y] [ceO 3 y [.ref a1, .ref a2, .ref a3, .ref a4, .int (iI 0), .null, .null, .null, .int (iI 0)], ceI G a1 160 (fun _ => 0), ceI G a2 160 (fun _ => 0), ceI G a3 160 (fun _ => 0), ceO 5 a4 [.ref b_5], ceJ G b_5 3 (tw (fun _ _ => false)), ceO 2 a6 [.null, .null, .int (iI 0), .int (iI (bZ false)), .null, .null, .int (iI 0), .int (iI 0)]] 6 492
  refine vv_dup F zd_PA_init_47 rfl ?_
  refine vv_callI (As := []) (rest := [.ref a6, .ref y]) (wr := [ceO 3 y [.ref a1, .ref a2, .ref a3, .ref a4, .int (iI 0), .null, .null, .null, .int (iI 0)], ceI G a1 160 (fun _ => 0), ceI G a2 160 (fun _ => 0), ceI G a3 160 (fun _ => 0), ceO 5 a4 [.ref b_5], ceJ G b_5 3 (tw (fun _ _ => false))]) F (cn_NE_init l G a6) zm_NE_init ⟨rfl, zw_48⟩ zw_47 zd_PA_init_48 ⟨by decide, by decide⟩ ⟨by decide, by decide⟩ [6] [0, 1, 2, 3, 4, 5] rfl rfl ⟨rfl, rfl, by decide⟩ rfl rfl (Nat.le_of_ble_eq_true rfl) (fun v9 w9 hp9 => ?_)
  obtain ⟨w_7, qa_8, ra_9, sa_10, sb_11, fa_12, fb_13, go_14, ta_15, tb_16, o_17, ah_18, ab_19, bh_20, bb_21, so_22, rfl, rfl⟩ := hp9
  refine vv_thenE (ws' := [ceO 3 y [.ref a1, .ref a2, .ref a3, .ref a4, .int (iI 0), .null, .null, .null, .int (iI 0)], ceI G a1 160 (fun _ => 0), ceI G a2 160 (fun _ => 0), ceI G a3 160 (fun _ => 0), ceO 5 a4 [.ref b_5], ceJ G b_5 3 (tw (fun _ _ => false)), ceO 2 a6 [.ref w_7, .ref go_14, .int (iI 0), .int (iI (bZ true)), .ref ta_15, .ref o_17, .int (iI 1), .int (iI (0 + 1))], ceO 6 w_7 [.ref qa_8, .ref ra_9, .ref sa_10, .ref fa_12], ceI G qa_8 160 (fun _ => 0), ceI G ra_9 160 (fun _ => 0), ceO 5 sa_10 [.ref sb_11], ceJ G sb_11 3 (tw (fun _ _ => false)), ceO 5 fa_12 [.ref fb_13], ceJ G fb_13 3 (tw (fun _ _ => false)), ceI G go_14 160 (fun _ => 0), ceO 5 ta_15 [.ref tb_16], ceJ G tb_16 480 (tw (fun _ _ => false)), ceO 4 o_17 [.ref ah_18, .ref bh_20, .ref so_22], ceO 5 ah_18 [.ref ab_19], ceJ G ab_19 480 (tw (idB 1)), ceO 5 bh_20 [.ref bb_21], ceJ G bb_21 480 (tw (idB 1)), ceI G so_22 160 (fun _ => 0)]) (st' := [.ref a6, .ref y]) (kc' := 22) (ks' := 2590) [0, 1, 2, 3, 4, 5, 6, 7, 8, 9, 10, 11, 12, 13, 14, 15, 16, 17, 18, 19, 20, 21, 22] rfl rfl rfl ?_
  refine vv_putF (v := .ref a6) (ws' := [ceO 3 y [.ref a1, .ref a2, .ref a3, .ref a4, .int (iI 0), .ref a6, .null, .null, .int (iI 0)], ceI G a1 160 (fun _ => 0), ceI G a2 160 (fun _ => 0), ceI G a3 160 (fun _ => 0), ceO 5 a4 [.ref b_5], ceJ G b_5 3 (tw (fun _ _ => false)), ceO 2 a6 [.ref w_7, .ref go_14, .int (iI 0), .int (iI (bZ true)), .ref ta_15, .ref o_17, .int (iI 1), .int (iI (0 + 1))], ceO 6 w_7 [.ref qa_8, .ref ra_9, .ref sa_10, .ref fa_12], ceI G qa_8 160 (fun _ => 0), ceI G ra_9 160 (fun _ => 0), ceO 5 sa_10 [.ref sb_11], ceJ G sb_11 3 (tw (fun _ _ => false)), ceO 5 fa_12 [.ref fb_13], ceJ G fb_13 3 (tw (fun _ _ => false)), ceI G go_14 160 (fun _ => 0), ceO 5 ta_15 [.ref tb_16], ceJ G tb_16 480 (tw (fun _ _ => false)), ceO 4 o_17 [.ref ah_18, .ref bh_20, .ref so_22], ceO 5 ah_18 [.ref ab_19], ceJ G ab_19 480 (tw (idB 1)), ceO 5 bh_20 [.ref bb_21], ceJ G bb_21 480 (tw (idB 1)), ceI G so_22 160 (fun _ => 0)]) F zd_PA_init_51 zf_PA zt_PA_ok zn_PA 0 rfl rfl 5 (by decide) zw_151 rfl rfl rfl rfl (Nat.le_of_ble_eq_true rfl) rfl ?_
  refine vv_aload_n F zd_PA_init_54 rfl 0 rfl ?_
  refine vv_sipush F zd_PA_init_55 (by decide) ?_
  refine vv_newaI (N := 160) F zd_PA_init_58 zw_43 rfl (by omega) (by decide) (by decide) (fun a23 => ?_)
  show vv_V _ _ _ _ _ _ _ _ _ _ _ _ _ _ _ [(0, .ref y)] [.ref a23, .ref y] [ceO 3 y [.ref a1, .ref a2, .ref a3, .ref a4, .int (iI 0), .ref a6, .null, .null, .int (iI 0)], ceI G a1 160 (fun _ => 0), ceI G a2 160 (fun _ => 0), ceI G a3 160 (fun _ => 0), ceO 5 a4 [.ref b_5], ceJ G b_5 3 (tw (fun _ _ => false)), ceO 2 a6 [.ref w_7, .ref go_14, .int (iI 0), .int (iI (bZ true)), .ref ta_15, .ref o_17, .int (iI 1), .int (iI (0 + 1))], ceO 6 w_7 [.ref qa_8, .ref ra_9, .ref sa_10, .ref fa_12], ceI G qa_8 160 (fun _ => 0), ceI G ra_9 160 (fun _ => 0), ceO 5 sa_10 [.ref sb_11], ceJ G sb_11 3 (tw (fun _ _ => false)), ceO 5 fa_12 [.ref fb_13], ceJ G fb_13 3 (tw (fun _ _ => false)), ceI G go_14 160 (fun _ => 0), ceO 5 ta_15 [.ref tb_16], ceJ G tb_16 480 (tw (fun _ _ => false)), ceO 4 o_17 [.ref ah_18, .ref bh_20, .ref so_22], ceO 5 ah_18 [.ref ab_19], ceJ G ab_19 480 (tw (idB 1)), ceO 5 bh_20 [.ref bb_21], ceJ G bb_21 480 (tw (idB 1)), ceI G so_22 160 (fun _ => 0), ceI G a23 160 (fun _ => 0)] 23 2750
  refine vv_putF (v := .ref a23) (ws' := [ceO 3 y [.ref a1, .ref a2, .ref a3, .ref a4, .int (iI 0), .ref a6, .ref a23, .null, .int (iI 0)], ceI G a1 160 (fun _ => 0), ceI G a2 160 (fun _ => 0), ceI G a3 160 (fun _ => 0), ceO 5 a4 [.ref b_5], ceJ G b_5 3 (tw (fun _ _ => false)), ceO 2 a6 [.ref w_7, .ref go_14, .int (iI 0), .int (iI (bZ true)), .ref ta_15, .ref o_17, .int (iI 1), .int (iI (0 + 1))], ceO 6 w_7 [.ref qa_8, .ref ra_9, .ref sa_10, .ref fa_12], ceI G qa_8 160 (fun _ => 0), ceI G ra_9 160 (fun _ => 0), ceO 5 sa_10 [.ref sb_11], ceJ G sb_11 3 (tw (fun _ _ => false)), ceO 5 fa_12 [.ref fb_13], ceJ G fb_13 3 (tw (fun _ _ => false)), ceI G go_14 160 (fun _ => 0), ceO 5 ta_15 [.ref tb_16], ceJ G tb_16 480 (tw (fun _ _ => false)), ceO 4 o_17 [.ref ah_18, .ref bh_20, .ref so_22], ceO 5 ah_18 [.ref ab_19], ceJ G ab_19 480 (tw (idB 1)), ceO 5 bh_20 [.ref bb_21], ceJ G bb_21 480 (tw (idB 1)), ceI G so_22 160 (fun _ => 0), ceI G a23 160 (fun _ => 0)]) F zd_PA_init_60 zf_PA zt_PA_ok zn_PA 0 rfl rfl 6 (by decide) zw_152 rfl rfl rfl rfl (Nat.le_of_ble_eq_true rfl) rfl ?_
  refine vv_aload_n F zd_PA_init_63 rfl 0 rfl ?_
  refine vv_sipush F zd_PA_init_64 (by decide) ?_
  refine vv_newaI (N := 160) F zd_PA_init_67 zw_43 rfl (by omega) (by decide) (by decide) (fun a24 => ?_)
  show vv_V _ _ _ _ _ _ _ _ _ _ _ _ _ _ _ [(0, .ref y)] [.ref a24, .ref y] [ceO 3 y [.ref a1, .ref a2, .ref a3, .ref a4, .int (iI 0), .ref a6, .ref a23, .null, .int (iI 0)], ceI G a1 160 (fun _ => 0), ceI G a2 160 (fun _ => 0), ceI G a3 160 (fun _ => 0), ceO 5 a4 [.ref b_5], ceJ G b_5 3 (tw (fun _ _ => false)), ceO 2 a6 [.ref w_7, .ref go_14, .int (iI 0), .int (iI (bZ true)), .ref ta_15, .ref o_17, .int (iI 1), .int (iI (0 + 1))], ceO 6 w_7 [.ref qa_8, .ref ra_9, .ref sa_10, .ref fa_12], ceI G qa_8 160 (fun _ => 0), ceI G ra_9 160 (fun _ => 0), ceO 5 sa_10 [.ref sb_11], ceJ G sb_11 3 (tw (fun _ _ => false)), ceO 5 fa_12 [.ref fb_13], ceJ G fb_13 3 (tw (fun _ _ => false)), ceI G go_14 160 (fun _ => 0), ceO 5 ta_15 [.ref tb_16], ceJ G tb_16 480 (tw (fun _ _ => false)), ceO 4 o_17 [.ref ah_18, .ref bh_20, .ref so_22], ceO 5 ah_18 [.ref ab_19], ceJ G ab_19 480 (tw (idB 1)), ceO 5 bh_20 [.ref bb_21], ceJ G bb_21 480 (tw (idB 1)), ceI G so_22 160 (fun _ => 0), ceI G a23 160 (fun _ => 0), ceI G a24 160 (fun _ => 0)] 24 2910
  refine vv_putF (v := .ref a24) (ws' := [ceO 3 y [.ref a1, .ref a2, .ref a3, .ref a4, .int (iI 0), .ref a6, .ref a23, .ref a24, .int (iI 0)], ceI G a1 160 (fun _ => 0), ceI G a2 160 (fun _ => 0), ceI G a3 160 (fun _ => 0), ceO 5 a4 [.ref b_5], ceJ G b_5 3 (tw (fun _ _ => false)), ceO 2 a6 [.ref w_7, .ref go_14, .int (iI 0), .int (iI (bZ true)), .ref ta_15, .ref o_17, .int (iI 1), .int (iI (0 + 1))], ceO 6 w_7 [.ref qa_8, .ref ra_9, .ref sa_10, .ref fa_12], ceI G qa_8 160 (fun _ => 0), ceI G ra_9 160 (fun _ => 0), ceO 5 sa_10 [.ref sb_11], ceJ G sb_11 3 (tw (fun _ _ => false)), ceO 5 fa_12 [.ref fb_13], ceJ G fb_13 3 (tw (fun _ _ => false)), ceI G go_14 160 (fun _ => 0), ceO 5 ta_15 [.ref tb_16], ceJ G tb_16 480 (tw (fun _ _ => false)), ceO 4 o_17 [.ref ah_18, .ref bh_20, .ref so_22], ceO 5 ah_18 [.ref ab_19], ceJ G ab_19 480 (tw (idB 1)), ceO 5 bh_20 [.ref bb_21], ceJ G bb_21 480 (tw (idB 1)), ceI G so_22 160 (fun _ => 0), ceI G a23 160 (fun _ => 0), ceI G a24 160 (fun _ => 0)]) F zd_PA_init_69 zf_PA zt_PA_ok zn_PA 0 rfl rfl 7 (by decide) zw_154 rfl rfl rfl rfl (Nat.le_of_ble_eq_true rfl) rfl ?_
  exact vv_vret F zd_PA_init_72 ⟨_, _, _, _, _, _, _, _, _, _, _, _, _, _, _, _, _, _, _, _, _, _, _, _, rfl, rfl⟩
