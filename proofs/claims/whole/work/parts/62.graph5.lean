/-- what the class answers of a part -/
def abo (B : Nat → Nat → Bool) (n : Nat) (H K : Nat → Nat → Bool) (Nb Ls : Nat → Int) (mn u v z : Int) : Prop :=
  (v = 0 ∧ z = (cN (fun p => H (Ls u.toNat).toNat p && K (Ls u.toNat).toNat p) 192 : Int)) ∨ (v = 1 ∧ z = Ls u.toNat) ∨ (v = 2 ∧ z = (aArcs B n Nb u true : Int)) ∨ (v = 3 ∧ z = (aArcs B n Nb u false : Int)) ∨
  (v = 4 ∧ ∃ Z : Nat → Nat → Bool, gset B Nb Ls u (fun _ _ => True) Z ∧ z = (cN (Z 0) 192 : Int)) ∨ (v = 5 ∧ ∃ Z : Nat → Nat → Bool, gset B Nb Ls u (fun _ _ => True) Z ∧ z = (cN (fun b => Z 0 b && decide (cN (fun p => K b p && Z 0 p) 192 = 1)) 192 : Int)) ∨
  (v = 6 ∧ ∃ C : Nat → Int, chn H Nb Ls mn u C ∧ z = C u.toNat)

set_option maxHeartbeats 4000000 in
set_option maxRecDepth 100000 in
theorem cn_CG_about (l : Launch) (G : vv_G) (cg : Nat) (y : Nat) (x : Nat) (cr : Nat) (wt : Nat) (cn : Nat) (sm : Nat) (gs : Nat) (cs : Int) (nb : Nat) (ls : Nat) (mn : Int) (W : Nat → Int) (g : Nat → Int) (Nb : Nat → Int) (Ls : Nat → Int) (w : Nat) (go : Nat) (ac : Int) (rk : Bool) (ta : Nat) (o : Nat) (n : Int) (ch : Int) (tb : Nat) (B : Nat → Nat → Bool) (ah : Nat) (bh : Nat) (so : Nat) (ab : Nat) (H : Nat → Nat → Bool) (bb : Nat) (K : Nat → Nat → Bool) (f : Nat → Int) (gf : Nat → Int) (gb : Nat) (Z : Nat → Nat → Bool) (C : Nat → Int) (u : Int) (v : Int) (hn : 0 ≤ n ∧ n ≤ 160) (hB : ∀ x y, B x y = true → x < n.toNat ∧ y < n.toNat) (hck : rk = true → cl B n.toNat H K) (hnum : cs = ch → rk = true ∧ numC n.toNat H Nb Ls mn) (hcs : rg cs) (hch : rg ch) (hP : ∀ (H2 K2 : Nat → Nat → Bool) (Nb2 Ls2 : Nat → Int) (mn2 : Int), cl B n.toNat H2 K2 → numC n.toNat H2 Nb2 Ls2 mn2 → 0 ≤ u ∧ u < mn2) (hw : 0 ≤ v ∧ v ≤ 6) :
    vv_C l zy_CG_about zc_CG_about 4 (some .int) { frames := 7, cells := 0, slots := 0, locals := 158 } G [.ref cg, .int (iI u), .int (iI v)] [ceO 0 cg [.ref y, .ref x, .ref cr], ceO 3 y [.ref wt, .ref cn, .ref sm, .ref gs, .int (iI cs), .ref x, .ref nb, .ref ls, .int (iI mn)], ceI G wt 160 W, ceI G sm 160 g, ceI G nb 160 Nb, ceI G ls 160 Ls, ceO 2 x [.ref w, .ref go, .int (iI ac), .int (iI (bZ rk)), .ref ta, .ref o, .int (iI n), .int (iI ch)], ceO 5 ta [.ref tb], ceJ G tb 480 (tw B), ceO 4 o [.ref ah, .ref bh, .ref so], ceO 5 ah [.ref ab], ceJ G ab 480 (tw H), ceO 5 bh [.ref bb], ceJ G bb 480 (tw K), ceI G so 160 f, ceI G go 160 gf, ceO 5 gs [.ref gb], ceJ G gb 3 (tw Z), ceI G cn 160 C] (fun v7 w7 => ∃ (W2 : Nat → Int) (g2 : Nat → Int) (Nb2 : Nat → Int) (Ls2 : Nat → Int) (mn2 : Int) (H2 : Nat → Nat → Bool) (K2 : Nat → Nat → Bool) (f2 : Nat → Int) (gf2 : Nat → Int) (Z2 : Nat → Nat → Bool) (C2 : Nat → Int) (z : Int), (cl B n.toNat H2 K2) ∧ (numC n.toNat H2 Nb2 Ls2 mn2) ∧ (0 ≤ u ∧ u < mn2) ∧ (abo B n.toNat H2 K2 Nb2 Ls2 mn2 u v z) ∧ v7 = some (.int (iI z)) ∧ w7 = [ceO 0 cg [.ref y, .ref x, .ref cr], ceO 3 y [.ref wt, .ref cn, .ref sm, .ref gs, .int (iI ch), .ref x, .ref nb, .ref ls, .int (iI mn2)], ceI G wt 160 W2, ceI G sm 160 g2, ceI G nb 160 Nb2, ceI G ls 160 Ls2, ceO 2 x [.ref w, .ref go, .int (iI ac), .int (iI (bZ true)), .ref ta, .ref o, .int (iI n), .int (iI ch)], ceO 5 ta [.ref tb], ceJ G tb 480 (tw B), ceO 4 o [.ref ah, .ref bh, .ref so], ceO 5 ah [.ref ab], ceJ G ab 480 (tw H2), ceO 5 bh [.ref bb], ceJ G bb 480 (tw K2), ceI G so 160 f2, ceI G go 160 gf2, ceO 5 gs [.ref gb], ceJ G gb 3 (tw Z2), ceI G cn 160 C2]) := by
  refine vv_met (by decide +kernel) (Nat.le_of_ble_eq_true rfl) rfl ?_
  intro p e s m args below meth c A F
  refine vv_aload_n F zd_CG_about_0 rfl 0 rfl ?_
  refine vv_get F zd_CG_about_1 zf_CG 0 rfl rfl 0 (by decide) zw_243 rfl ?_
  refine vv_callV (q0 := 1) (As := []) (rest := []) (wr := [ceO 0 cg [.ref y, .ref x, .ref cr], ceO 5 gs [.ref gb], ceJ G gb 3 (tw Z), ceI G cn 160 C]) F (cn_PA_renewed l G y wt cn sm gs nb ls x w go ta o tb B ah ab bh bb so cs mn ac rk n ch H K f gf W g Nb Ls hn hB hck hnum hcs hch) zm_PA_renewed ⟨zw_258, zw_259⟩ zw_257 zd_CG_about_4 ⟨by decide, by decide⟩ ⟨by decide, by decide⟩ [1, 2, 3, 4, 5, 6, 7, 8, 9, 10, 11, 12, 13, 14, 15] [0, 16, 17, 18] rfl rfl ⟨rfl, rfl, by decide⟩ rfl rfl rfl rfl (Nat.le_of_ble_eq_true rfl) (fun v9 w9 hp9 => ?_)
  obtain ⟨W2_1, g2_2, Nb2_3, Ls2_4, mn2_5, H2_6, K2_7, f2_8, gf2_9, hf1_0, hf1_1, rfl, rfl⟩ := hp9
  refine vv_thenE (ws' := [ceO 0 cg [.ref y, .ref x, .ref cr], ceO 3 y [.ref wt, .ref cn, .ref sm, .ref gs, .int (iI ch), .ref x, .ref nb, .ref ls, .int (iI mn2_5)], ceI G wt 160 W2_1, ceI G sm 160 g2_2, ceI G nb 160 Nb2_3, ceI G ls 160 Ls2_4, ceO 2 x [.ref w, .ref go, .int (iI ac), .int (iI (bZ true)), .ref ta, .ref o, .int (iI n), .int (iI ch)], ceO 5 ta [.ref tb], ceJ G tb 480 (tw B), ceO 4 o [.ref ah, .ref bh, .ref so], ceO 5 ah [.ref ab], ceJ G ab 480 (tw H2_6), ceO 5 bh [.ref bb], ceJ G bb 480 (tw K2_7), ceI G so 160 f2_8, ceI G go 160 gf2_9, ceO 5 gs [.ref gb], ceJ G gb 3 (tw Z), ceI G cn 160 C]) (st' := [.ref y]) (kc' := 0) (ks' := 0) [0, 4, 5, 6, 7, 8, 9, 10, 11, 12, 13, 14, 15, 16, 17, 18, 1, 2, 3] rfl rfl rfl ?_
  have hpp := hP _ _ _ _ _ hf1_0 hf1_1
  obtain ⟨k1, k2, k3, k4⟩ := numC_in hf1_1
  have hLs2 : ∀ c : Nat, (c : Int) < mn2_5 → 0 ≤ Ls2_4 c ∧ Ls2_4 c < 160 := fun c hc => by have := k2 c hc; omega
  have hNb1 : ∀ j, j < n.toNat → 0 ≤ Nb2_3 j ∧ Nb2_3 j < mn2_5 := k1
  have hNb2 : ∀ j, j < n.toNat → -1 ≤ Nb2_3 j ∧ Nb2_3 j < 160 := fun j hj => by have := k1 j hj; omega
  have hLu := hLs2 u.toNat (by omega)
  have hlu : 0 ≤ Ls2_4 u.toNat ∧ Ls2_4 u.toNat < 160 := hLu
  refine vv_astore_n (lv' := [(0, .ref cg), (1, .int (iI u)), (2, .int (iI v)), (3, .ref y)]) F zd_CG_about_7 rfl (by decide) [1, 2, 3, 0] rfl ?_
  refine vv_iload_n F zd_CG_about_8 rfl 1 rfl ?_
  refine vv_if_lt (tgt := 20) F zd_CG_about_9 rfl (by first | exact ⟨by omega, by omega⟩) (fun h1 => ?_) (fun h1 => ?_)
  · exfalso
    omega
  · refine vv_iload_n F zd_CG_about_12 rfl 1 rfl ?_
    refine vv_aload_n F zd_CG_about_13 rfl 3 rfl ?_
    refine vv_get F zd_CG_about_14 zf_PA 1 rfl rfl 8 (by decide) zw_157 rfl ?_
    refine vv_icmp_lt (tgt := 30) F zd_CG_about_17 rfl (by first | exact ⟨by omega, by omega⟩) (by first | exact ⟨by omega, by omega⟩) (fun h2 => ?_) (fun h2 => ?_)
    · refine vv_iload_n F zd_CG_about_30 rfl 2 rfl ?_
      rcases (show (v < 0 ∨ 6 < v) ∨ v = 0 ∨ v = 1 ∨ v = 2 ∨ v = 3 ∨ v = 4 ∨ v = 5 ∨ v = 6 by omega) with h3 | h3 | h3 | h3 | h3 | h3 | h3 | h3
      · refine vv_tableOut (tgt := 115) F zd_CG_about_31 (by first | exact ⟨by omega, by omega⟩) h3 rfl ?_
        exfalso
        omega
      · refine vv_tableIn (tgt := 72) F zd_CG_about_31 (by first | exact ⟨by omega, by omega⟩) (by omega) (by omega) (by rw [h3]; rfl) rfl ?_
        refine vv_aload_n F zd_CG_about_72 rfl 3 rfl ?_
        refine vv_iload_n F zd_CG_about_73 rfl 1 rfl ?_
        refine vv_callV (q0 := 1) (As := [.int (iI u)]) (rest := []) (wr := [ceO 0 cg [.ref y, .ref x, .ref cr], ceI G wt 160 W2_1, ceI G sm 160 g2_2, ceI G nb 160 Nb2_3, ceO 5 ta [.ref tb], ceJ G tb 480 (tw B), ceI G go 160 gf2_9, ceO 5 gs [.ref gb], ceJ G gb 3 (tw Z), ceI G cn 160 C]) F (cn_PA_sizeOf l G y wt cn sm gs nb ls x w go ta o ah ab bh bb so ch mn2_5 ac true n ch H2_6 K2_7 f2_8 Ls2_4 u ⟨by omega, by omega⟩ hlu) zm_PA_sizeOf ⟨zw_345, zw_346⟩ zw_551 zd_CG_about_74 ⟨by decide, by decide⟩ ⟨by decide, by decide⟩ [1, 5, 6, 9, 10, 11, 12, 13, 14] [0, 2, 3, 4, 7, 8, 15, 16, 17, 18] rfl rfl ⟨rfl, rfl, by decide⟩ rfl rfl rfl rfl (Nat.le_of_ble_eq_true rfl) (vv_then (ws' := [ceO 0 cg [.ref y, .ref x, .ref cr], ceO 3 y [.ref wt, .ref cn, .ref sm, .ref gs, .int (iI ch), .ref x, .ref nb, .ref ls, .int (iI mn2_5)], ceI G wt 160 W2_1, ceI G sm 160 g2_2, ceI G nb 160 Nb2_3, ceI G ls 160 Ls2_4, ceO 2 x [.ref w, .ref go, .int (iI ac), .int (iI (bZ true)), .ref ta, .ref o, .int (iI n), .int (iI ch)], ceO 5 ta [.ref tb], ceJ G tb 480 (tw B), ceO 4 o [.ref ah, .ref bh, .ref so], ceO 5 ah [.ref ab], ceJ G ab 480 (tw H2_6), ceO 5 bh [.ref bb], ceJ G bb 480 (tw K2_7), ceI G so 160 f2_8, ceI G go 160 gf2_9, ceO 5 gs [.ref gb], ceJ G gb 3 (tw Z), ceI G cn 160 C]) (st' := [.int (iI (cN (fun p => H2_6 (Ls2_4 u.toNat).toNat p && K2_7 (Ls2_4 u.toNat).toNat p) 192 : Int))]) [0, 10, 1, 2, 3, 11, 12, 4, 5, 13, 14, 15, 16, 17, 18, 6, 7, 8, 9] rfl rfl rfl ?_)
        exact vv_iret F zd_CG_about_77 ⟨_, _, _, _, _, _, _, _, _, _, _, _, hf1_0, hf1_1, hpp, Or.inl (⟨h3, rfl⟩), rfl, rfl⟩
      · refine vv_tableIn (tgt := 78) F zd_CG_about_31 (by first | exact ⟨by omega, by omega⟩) (by omega) (by omega) (by rw [h3]; rfl) rfl ?_
        refine vv_aload_n F zd_CG_about_78 rfl 3 rfl ?_
        refine vv_get F zd_CG_about_79 zf_PA 1 rfl rfl 7 (by decide) zw_155 rfl ?_
        refine vv_iload_n F zd_CG_about_82 rfl 1 rfl ?_
        refine vv_iald F zd_CG_about_83 5 rfl ⟨by omega, by omega⟩ (by decide) ?_
        exact vv_iret F zd_CG_about_84 ⟨_, _, _, _, _, _, _, _, _, _, _, _, hf1_0, hf1_1, hpp, Or.inr (Or.inl (⟨h3, rfl⟩)), rfl, rfl⟩
      · refine vv_tableIn (tgt := 85) F zd_CG_about_31 (by first | exact ⟨by omega, by omega⟩) (by omega) (by omega) (by rw [h3]; rfl) rfl ?_
        refine vv_aload_n F zd_CG_about_85 rfl 3 rfl ?_
        refine vv_iload_n F zd_CG_about_86 rfl 1 rfl ?_
        refine vv_callV (q0 := 1) (As := [.int (iI u)]) (rest := []) (wr := [ceO 0 cg [.ref y, .ref x, .ref cr], ceI G wt 160 W2_1, ceI G ls 160 Ls2_4, ceO 4 o [.ref ah, .ref bh, .ref so], ceO 5 ah [.ref ab], ceJ G ab 480 (tw H2_6), ceO 5 bh [.ref bb], ceJ G bb 480 (tw K2_7), ceI G so 160 f2_8, ceI G go 160 gf2_9, ceO 5 gs [.ref gb], ceJ G gb 3 (tw Z), ceI G cn 160 C]) F (cn_PA_arcsInside l G y wt cn sm gs nb ls x w go ta o tb B ch mn2_5 ac true n ch Nb2_3 u g2_2 hn hB ⟨by omega, by omega⟩ hNb2) zm_PA_arcsInside ⟨zw_553, zw_554⟩ zw_552 zd_CG_about_87 ⟨by decide, by decide⟩ ⟨by decide, by decide⟩ [1, 3, 4, 6, 7, 8] [0, 2, 5, 9, 10, 11, 12, 13, 14, 15, 16, 17, 18] rfl rfl ⟨rfl, rfl, by decide⟩ rfl rfl rfl rfl (Nat.le_of_ble_eq_true rfl) (fun v9 w9 hp9 => ?_)
        obtain ⟨g2_10, rfl, rfl⟩ := hp9
        refine vv_thenE (ws' := [ceO 0 cg [.ref y, .ref x, .ref cr], ceO 3 y [.ref wt, .ref cn, .ref sm, .ref gs, .int (iI ch), .ref x, .ref nb, .ref ls, .int (iI mn2_5)], ceI G wt 160 W2_1, ceI G sm 160 g2_10, ceI G nb 160 Nb2_3, ceI G ls 160 Ls2_4, ceO 2 x [.ref w, .ref go, .int (iI ac), .int (iI (bZ true)), .ref ta, .ref o, .int (iI n), .int (iI ch)], ceO 5 ta [.ref tb], ceJ G tb 480 (tw B), ceO 4 o [.ref ah, .ref bh, .ref so], ceO 5 ah [.ref ab], ceJ G ab 480 (tw H2_6), ceO 5 bh [.ref bb], ceJ G bb 480 (tw K2_7), ceI G so 160 f2_8, ceI G go 160 gf2_9, ceO 5 gs [.ref gb], ceJ G gb 3 (tw Z), ceI G cn 160 C]) (st' := [.int (iI (aArcs B n.toNat Nb2_3 u true : Int))]) (kc' := 0) (ks' := 0) [0, 13, 1, 14, 15, 2, 16, 17, 18, 3, 4, 5, 6, 7, 8, 9, 10, 11, 12] rfl rfl rfl ?_
        exact vv_iret F zd_CG_about_90 ⟨_, _, _, _, _, _, _, _, _, _, _, _, hf1_0, hf1_1, hpp, Or.inr (Or.inr (Or.inl (⟨h3, rfl⟩))), rfl, rfl⟩
      · refine vv_tableIn (tgt := 91) F zd_CG_about_31 (by first | exact ⟨by omega, by omega⟩) (by omega) (by omega) (by rw [h3]; rfl) rfl ?_
        refine vv_aload_n F zd_CG_about_91 rfl 3 rfl ?_
        refine vv_iload_n F zd_CG_about_92 rfl 1 rfl ?_
        refine vv_callV (q0 := 1) (As := [.int (iI u)]) (rest := []) (wr := [ceO 0 cg [.ref y, .ref x, .ref cr], ceI G wt 160 W2_1, ceI G ls 160 Ls2_4, ceO 4 o [.ref ah, .ref bh, .ref so], ceO 5 ah [.ref ab], ceJ G ab 480 (tw H2_6), ceO 5 bh [.ref bb], ceJ G bb 480 (tw K2_7), ceI G so 160 f2_8, ceI G go 160 gf2_9, ceO 5 gs [.ref gb], ceJ G gb 3 (tw Z), ceI G cn 160 C]) F (cn_PA_arcsOutward l G y wt cn sm gs nb ls x w go ta o tb B ch mn2_5 ac true n ch Nb2_3 u g2_2 hn hB ⟨by omega, by omega⟩ hNb2) zm_PA_arcsOutward ⟨zw_562, zw_563⟩ zw_561 zd_CG_about_93 ⟨by decide, by decide⟩ ⟨by decide, by decide⟩ [1, 3, 4, 6, 7, 8] [0, 2, 5, 9, 10, 11, 12, 13, 14, 15, 16, 17, 18] rfl rfl ⟨rfl, rfl, by decide⟩ rfl rfl rfl rfl (Nat.le_of_ble_eq_true rfl) (fun v9 w9 hp9 => ?_)
        obtain ⟨g2_11, rfl, rfl⟩ := hp9
        refine vv_thenE (ws' := [ceO 0 cg [.ref y, .ref x, .ref cr], ceO 3 y [.ref wt, .ref cn, .ref sm, .ref gs, .int (iI ch), .ref x, .ref nb, .ref ls, .int (iI mn2_5)], ceI G wt 160 W2_1, ceI G sm 160 g2_11, ceI G nb 160 Nb2_3, ceI G ls 160 Ls2_4, ceO 2 x [.ref w, .ref go, .int (iI ac), .int (iI (bZ true)), .ref ta, .ref o, .int (iI n), .int (iI ch)], ceO 5 ta [.ref tb], ceJ G tb 480 (tw B), ceO 4 o [.ref ah, .ref bh, .ref so], ceO 5 ah [.ref ab], ceJ G ab 480 (tw H2_6), ceO 5 bh [.ref bb], ceJ G bb 480 (tw K2_7), ceI G so 160 f2_8, ceI G go 160 gf2_9, ceO 5 gs [.ref gb], ceJ G gb 3 (tw Z), ceI G cn 160 C]) (st' := [.int (iI (aArcs B n.toNat Nb2_3 u false : Int))]) (kc' := 0) (ks' := 0) [0, 13, 1, 14, 15, 2, 16, 17, 18, 3, 4, 5, 6, 7, 8, 9, 10, 11, 12] rfl rfl rfl ?_
        exact vv_iret F zd_CG_about_96 ⟨_, _, _, _, _, _, _, _, _, _, _, _, hf1_0, hf1_1, hpp, Or.inr (Or.inr (Or.inr (Or.inl (⟨h3, rfl⟩)))), rfl, rfl⟩
      · refine vv_tableIn (tgt := 97) F zd_CG_about_31 (by first | exact ⟨by omega, by omega⟩) (by omega) (by omega) (by rw [h3]; rfl) rfl ?_
        refine vv_aload_n F zd_CG_about_97 rfl 3 rfl ?_
        refine vv_iload_n F zd_CG_about_98 rfl 1 rfl ?_
        refine vv_callV (q0 := 1) (As := [.int (iI u)]) (rest := []) (wr := [ceO 0 cg [.ref y, .ref x, .ref cr], ceI G wt 160 W2_1, ceO 4 o [.ref ah, .ref bh, .ref so], ceO 5 ah [.ref ab], ceJ G ab 480 (tw H2_6), ceO 5 bh [.ref bb], ceJ G bb 480 (tw K2_7), ceI G so 160 f2_8, ceI G go 160 gf2_9, ceI G cn 160 C]) F (cn_PA_goals l G y wt cn sm gs nb ls gb x w go ta o tb B ch mn2_5 ac true n ch Nb2_3 Ls2_4 u g2_2 Z hn hB ⟨by omega, by omega⟩ hNb1 ⟨by omega, by omega⟩ hLs2) zm_PA_goals ⟨zw_566, zw_567⟩ zw_565 zd_CG_about_99 ⟨by decide, by decide⟩ ⟨by decide, by decide⟩ [1, 3, 16, 17, 4, 5, 6, 7, 8] [0, 2, 9, 10, 11, 12, 13, 14, 15, 18] rfl rfl ⟨rfl, rfl, by decide⟩ rfl rfl rfl rfl (Nat.le_of_ble_eq_true rfl) (fun v9 w9 hp9 => ?_)
        obtain ⟨g2_12, Z2_13, hf4_0, rfl, rfl⟩ := hp9
        refine vv_thenE (ws' := [ceO 0 cg [.ref y, .ref x, .ref cr], ceO 3 y [.ref wt, .ref cn, .ref sm, .ref gs, .int (iI ch), .ref x, .ref nb, .ref ls, .int (iI mn2_5)], ceI G wt 160 W2_1, ceI G sm 160 g2_12, ceI G nb 160 Nb2_3, ceI G ls 160 Ls2_4, ceO 2 x [.ref w, .ref go, .int (iI ac), .int (iI (bZ true)), .ref ta, .ref o, .int (iI n), .int (iI ch)], ceO 5 ta [.ref tb], ceJ G tb 480 (tw B), ceO 4 o [.ref ah, .ref bh, .ref so], ceO 5 ah [.ref ab], ceJ G ab 480 (tw H2_6), ceO 5 bh [.ref bb], ceJ G bb 480 (tw K2_7), ceI G so 160 f2_8, ceI G go 160 gf2_9, ceO 5 gs [.ref gb], ceJ G gb 3 (tw Z2_13), ceI G cn 160 C]) (st' := [.int (iI (cN (Z2_13 0) 192 : Int))]) (kc' := 0) (ks' := 0) [0, 10, 1, 11, 14, 15, 16, 17, 18, 2, 3, 4, 5, 6, 7, 8, 12, 13, 9] rfl rfl rfl ?_
        exact vv_iret F zd_CG_about_102 ⟨_, _, _, _, _, _, _, _, _, _, _, _, hf1_0, hf1_1, hpp, Or.inr (Or.inr (Or.inr (Or.inr (Or.inl (⟨h3, _, hf4_0, rfl⟩))))), rfl, rfl⟩
      · refine vv_tableIn (tgt := 103) F zd_CG_about_31 (by first | exact ⟨by omega, by omega⟩) (by omega) (by omega) (by rw [h3]; rfl) rfl ?_
        refine vv_aload_n F zd_CG_about_103 rfl 3 rfl ?_
        refine vv_iload_n F zd_CG_about_104 rfl 1 rfl ?_
        refine vv_callV (q0 := 1) (As := [.int (iI u)]) (rest := []) (wr := [ceO 0 cg [.ref y, .ref x, .ref cr], ceI G wt 160 W2_1, ceI G go 160 gf2_9, ceI G cn 160 C]) F (cn_PA_goalsAlone l G y wt cn sm gs nb ls gb x w go ta o tb B ch mn2_5 ac true n ch Nb2_3 Ls2_4 u ah ab bh bb so H2_6 K2_7 f2_8 g2_2 Z hn hB ⟨by omega, by omega⟩ hNb1 ⟨by omega, by omega⟩ hLs2) zm_PA_goalsAlone ⟨zw_577, zw_578⟩ zw_576 zd_CG_about_105 ⟨by decide, by decide⟩ ⟨by decide, by decide⟩ [1, 3, 16, 17, 4, 5, 6, 7, 8, 9, 10, 11, 12, 13, 14] [0, 2, 15, 18] rfl rfl ⟨rfl, rfl, by decide⟩ rfl rfl rfl rfl (Nat.le_of_ble_eq_true rfl) (fun v9 w9 hp9 => ?_)
        obtain ⟨g2_14, Z2_15, hf5_0, rfl, rfl⟩ := hp9
        refine vv_thenE (ws' := [ceO 0 cg [.ref y, .ref x, .ref cr], ceO 3 y [.ref wt, .ref cn, .ref sm, .ref gs, .int (iI ch), .ref x, .ref nb, .ref ls, .int (iI mn2_5)], ceI G wt 160 W2_1, ceI G sm 160 g2_14, ceI G nb 160 Nb2_3, ceI G ls 160 Ls2_4, ceO 2 x [.ref w, .ref go, .int (iI ac), .int (iI (bZ true)), .ref ta, .ref o, .int (iI n), .int (iI ch)], ceO 5 ta [.ref tb], ceJ G tb 480 (tw B), ceO 4 o [.ref ah, .ref bh, .ref so], ceO 5 ah [.ref ab], ceJ G ab 480 (tw H2_6), ceO 5 bh [.ref bb], ceJ G bb 480 (tw K2_7), ceI G so 160 f2_8, ceI G go 160 gf2_9, ceO 5 gs [.ref gb], ceJ G gb 3 (tw Z2_15), ceI G cn 160 C]) (st' := [.int (iI (cN (fun b => Z2_15 0 b && decide (cN (fun p => K2_7 b p && Z2_15 0 p) 192 = 1)) 192 : Int))]) (kc' := 0) (ks' := 0) [0, 4, 1, 5, 8, 9, 10, 11, 12, 13, 14, 15, 16, 17, 18, 2, 6, 7, 3] rfl rfl rfl ?_
        exact vv_iret F zd_CG_about_108 ⟨_, _, _, _, _, _, _, _, _, _, _, _, hf1_0, hf1_1, hpp, Or.inr (Or.inr (Or.inr (Or.inr (Or.inr (Or.inl (⟨h3, _, hf5_0, rfl⟩)))))), rfl, rfl⟩
      · refine vv_tableIn (tgt := 109) F zd_CG_about_31 (by first | exact ⟨by omega, by omega⟩) (by omega) (by omega) (by rw [h3]; rfl) rfl ?_
        refine vv_aload_n F zd_CG_about_109 rfl 3 rfl ?_
        refine vv_iload_n F zd_CG_about_110 rfl 1 rfl ?_
        refine vv_callV (q0 := 1) (As := [.int (iI u)]) (rest := []) (wr := [ceO 0 cg [.ref y, .ref x, .ref cr], ceI G wt 160 W2_1, ceO 5 ta [.ref tb], ceJ G tb 480 (tw B), ceI G go 160 gf2_9, ceO 5 gs [.ref gb], ceJ G gb 3 (tw Z)]) F (cn_PA_longestChain l G y wt cn sm gs nb ls x w go ta o ah ab bh bb so ch mn2_5 ac true n ch H2_6 K2_7 f2_8 Nb2_3 Ls2_4 B u C g2_2 hn hf1_0 hf1_1 ⟨by omega, by omega⟩) zm_PA_longestChain ⟨zw_585, zw_586⟩ zw_584 zd_CG_about_111 ⟨by decide, by decide⟩ ⟨by decide, by decide⟩ [1, 18, 3, 4, 5, 6, 9, 10, 11, 12, 13, 14] [0, 2, 7, 8, 15, 16, 17] rfl rfl ⟨rfl, rfl, by decide⟩ rfl rfl rfl rfl (Nat.le_of_ble_eq_true rfl) (fun v9 w9 hp9 => ?_)
        obtain ⟨C2_16, g2_17, hf6_0, rfl, rfl⟩ := hp9
        refine vv_thenE (ws' := [ceO 0 cg [.ref y, .ref x, .ref cr], ceO 3 y [.ref wt, .ref cn, .ref sm, .ref gs, .int (iI ch), .ref x, .ref nb, .ref ls, .int (iI mn2_5)], ceI G wt 160 W2_1, ceI G sm 160 g2_17, ceI G nb 160 Nb2_3, ceI G ls 160 Ls2_4, ceO 2 x [.ref w, .ref go, .int (iI ac), .int (iI (bZ true)), .ref ta, .ref o, .int (iI n), .int (iI ch)], ceO 5 ta [.ref tb], ceJ G tb 480 (tw B), ceO 4 o [.ref ah, .ref bh, .ref so], ceO 5 ah [.ref ab], ceJ G ab 480 (tw H2_6), ceO 5 bh [.ref bb], ceJ G bb 480 (tw K2_7), ceI G so 160 f2_8, ceI G go 160 gf2_9, ceO 5 gs [.ref gb], ceJ G gb 3 (tw Z), ceI G cn 160 C2_16]) (st' := [.int (iI (C2_16 u.toNat))]) (kc' := 0) (ks' := 0) [0, 7, 1, 9, 10, 11, 12, 2, 3, 13, 14, 15, 16, 17, 18, 4, 5, 6, 8] rfl rfl rfl ?_
        exact vv_iret F zd_CG_about_114 ⟨_, _, _, _, _, _, _, _, _, _, _, _, hf1_0, hf1_1, hpp, Or.inr (Or.inr (Or.inr (Or.inr (Or.inr (Or.inr ((⟨h3, _, hf6_0, rfl⟩))))))), rfl, rfl⟩
    · exfalso
      omega

set_option maxHeartbeats 4000000 in
set_option maxRecDepth 100000 in
theorem cn_CG_about_t1 (l : Launch) (hl : l.stackTraces = false) (G : vv_G) (cg : Nat) (y : Nat) (x : Nat) (cr : Nat) (wt : Nat) (cn : Nat) (sm : Nat) (gs : Nat) (cs : Int) (nb : Nat) (ls : Nat) (mn : Int) (W : Nat → Int) (g : Nat → Int) (Nb : Nat → Int) (Ls : Nat → Int) (w : Nat) (go : Nat) (ac : Int) (rk : Bool) (ta : Nat) (o : Nat) (n : Int) (ch : Int) (tb : Nat) (B : Nat → Nat → Bool) (ah : Nat) (bh : Nat) (so : Nat) (ab : Nat) (H : Nat → Nat → Bool) (bb : Nat) (K : Nat → Nat → Bool) (f : Nat → Int) (gf : Nat → Int) (u : Int) (v : Int) (hn : 0 ≤ n ∧ n ≤ 160) (hB : ∀ x y, B x y = true → x < n.toNat ∧ y < n.toNat) (hck : rk = true → cl B n.toNat H K) (hnum : cs = ch → rk = true ∧ numC n.toNat H Nb Ls mn) (hcs : rg cs) (hch : rg ch) (hP : ∀ (H2 K2 : Nat → Nat → Bool) (Nb2 Ls2 : Nat → Int) (mn2 : Int), cl B n.toNat H2 K2 → numC n.toNat H2 Nb2 Ls2 mn2 → (u < 0 ∨ mn2 ≤ u)) (hu : rg u) :
    vt_C l zy_CG_about zc_CG_about 4 (some .int) { frames := 7, cells := 1, slots := 6, locals := 158 } G "java/lang/IndexOutOfBoundsException" [.ref cg, .int (iI u), .int (iI v)] [ceO 0 cg [.ref y, .ref x, .ref cr], ceO 3 y [.ref wt, .ref cn, .ref sm, .ref gs, .int (iI cs), .ref x, .ref nb, .ref ls, .int (iI mn)], ceI G wt 160 W, ceI G sm 160 g, ceI G nb 160 Nb, ceI G ls 160 Ls, ceO 2 x [.ref w, .ref go, .int (iI ac), .int (iI (bZ rk)), .ref ta, .ref o, .int (iI n), .int (iI ch)], ceO 5 ta [.ref tb], ceJ G tb 480 (tw B), ceO 4 o [.ref ah, .ref bh, .ref so], ceO 5 ah [.ref ab], ceJ G ab 480 (tw H), ceO 5 bh [.ref bb], ceJ G bb 480 (tw K), ceI G so 160 f, ceI G go 160 gf] (fun w7 => ∃ (W2 : Nat → Int) (g2 : Nat → Int) (Nb2 : Nat → Int) (Ls2 : Nat → Int) (mn2 : Int) (H2 : Nat → Nat → Bool) (K2 : Nat → Nat → Bool) (f2 : Nat → Int) (gf2 : Nat → Int), (cl B n.toNat H2 K2) ∧ (numC n.toNat H2 Nb2 Ls2 mn2) ∧ (u < 0 ∨ mn2 ≤ u) ∧ w7 = [ceO 0 cg [.ref y, .ref x, .ref cr], ceO 3 y [.ref wt, .ref cn, .ref sm, .ref gs, .int (iI ch), .ref x, .ref nb, .ref ls, .int (iI mn2)], ceI G wt 160 W2, ceI G sm 160 g2, ceI G nb 160 Nb2, ceI G ls 160 Ls2, ceO 2 x [.ref w, .ref go, .int (iI ac), .int (iI (bZ true)), .ref ta, .ref o, .int (iI n), .int (iI ch)], ceO 5 ta [.ref tb], ceJ G tb 480 (tw B), ceO 4 o [.ref ah, .ref bh, .ref so], ceO 5 ah [.ref ab], ceJ G ab 480 (tw H2), ceO 5 bh [.ref bb], ceJ G bb 480 (tw K2), ceI G so 160 f2, ceI G go 160 gf2]) := by
  refine vt_met (by decide +kernel) (Nat.le_of_ble_eq_true rfl) rfl ?_
  intro p e s m args below meth c A F E hx0
  refine vv_aload_n F zd_CG_about_0 rfl 0 rfl ?_
  refine vv_get F zd_CG_about_1 zf_CG 0 rfl rfl 0 (by decide) zw_243 rfl ?_
  refine vv_callV (q0 := 1) (As := []) (rest := []) (wr := [ceO 0 cg [.ref y, .ref x, .ref cr]]) F (cn_PA_renewed l G y wt cn sm gs nb ls x w go ta o tb B ah ab bh bb so cs mn ac rk n ch H K f gf W g Nb Ls hn hB hck hnum hcs hch) zm_PA_renewed ⟨zw_258, zw_259⟩ zw_257 zd_CG_about_4 ⟨by decide, by decide⟩ ⟨by decide, by decide⟩ [1, 2, 3, 4, 5, 6, 7, 8, 9, 10, 11, 12, 13, 14, 15] [0] rfl rfl ⟨rfl, rfl, by decide⟩ rfl rfl rfl rfl (Nat.le_of_ble_eq_true rfl) (fun v9 w9 hp9 => ?_)
  obtain ⟨W2_1, g2_2, Nb2_3, Ls2_4, mn2_5, H2_6, K2_7, f2_8, gf2_9, hf1_0, hf1_1, rfl, rfl⟩ := hp9
  refine vv_thenE (ws' := [ceO 0 cg [.ref y, .ref x, .ref cr], ceO 3 y [.ref wt, .ref cn, .ref sm, .ref gs, .int (iI ch), .ref x, .ref nb, .ref ls, .int (iI mn2_5)], ceI G wt 160 W2_1, ceI G sm 160 g2_2, ceI G nb 160 Nb2_3, ceI G ls 160 Ls2_4, ceO 2 x [.ref w, .ref go, .int (iI ac), .int (iI (bZ true)), .ref ta, .ref o, .int (iI n), .int (iI ch)], ceO 5 ta [.ref tb], ceJ G tb 480 (tw B), ceO 4 o [.ref ah, .ref bh, .ref so], ceO 5 ah [.ref ab], ceJ G ab 480 (tw H2_6), ceO 5 bh [.ref bb], ceJ G bb 480 (tw K2_7), ceI G so 160 f2_8, ceI G go 160 gf2_9]) (st' := [.ref y]) (kc' := 0) (ks' := 0) [0, 1, 2, 3, 4, 5, 6, 7, 8, 9, 10, 11, 12, 13, 14, 15] rfl rfl rfl ?_
  have hpp := hP _ _ _ _ _ hf1_0 hf1_1
  obtain ⟨k1, k2, k3, k4⟩ := numC_in hf1_1
  refine vv_astore_n (lv' := [(0, .ref cg), (1, .int (iI u)), (2, .int (iI v)), (3, .ref y)]) F zd_CG_about_7 rfl (by decide) [1, 2, 3, 0] rfl ?_
  refine vv_iload_n F zd_CG_about_8 rfl 1 rfl ?_
  refine vv_if_lt (tgt := 20) F zd_CG_about_9 rfl (by first | exact ⟨by omega, by omega⟩ | exact hu) (fun h1 => ?_) (fun h1 => ?_)
  · exact vt_throw F E hx0 hl zd_CG_about_20 zd_CG_about_23 zd_CG_about_24 zd_CG_about_26 zd_CG_about_29 zw_499 zw_14 zt_550 xa_IO (by decide +kernel) ⟨by decide, by decide⟩ ⟨by decide, by decide⟩ (⟨_, _, _, _, _, _, _, _, _, hf1_0, hf1_1, hpp, rfl⟩)
  · refine vv_iload_n F zd_CG_about_12 rfl 1 rfl ?_
    refine vv_aload_n F zd_CG_about_13 rfl 3 rfl ?_
    refine vv_get F zd_CG_about_14 zf_PA 1 rfl rfl 8 (by decide) zw_157 rfl ?_
    refine vv_icmp_lt (tgt := 30) F zd_CG_about_17 rfl (by first | exact ⟨by omega, by omega⟩ | exact hu) (by first | exact ⟨by omega, by omega⟩ | exact hu) (fun h2 => ?_) (fun h2 => ?_)
    · exfalso
      omega
    · exact vt_throw F E hx0 hl zd_CG_about_20 zd_CG_about_23 zd_CG_about_24 zd_CG_about_26 zd_CG_about_29 zw_499 zw_14 zt_550 xa_IO (by decide +kernel) ⟨by decide, by decide⟩ ⟨by decide, by decide⟩ (⟨_, _, _, _, _, _, _, _, _, hf1_0, hf1_1, hpp, rfl⟩)

set_option maxHeartbeats 4000000 in
set_option maxRecDepth 100000 in
theorem cn_CG_about_t2 (l : Launch) (hl : l.stackTraces = false) (G : vv_G) (cg : Nat) (y : Nat) (x : Nat) (cr : Nat) (wt : Nat) (cn : Nat) (sm : Nat) (gs : Nat) (cs : Int) (nb : Nat) (ls : Nat) (mn : Int) (W : Nat → Int) (g : Nat → Int) (Nb : Nat → Int) (Ls : Nat → Int) (w : Nat) (go : Nat) (ac : Int) (rk : Bool) (ta : Nat) (o : Nat) (n : Int) (ch : Int) (tb : Nat) (B : Nat → Nat → Bool) (ah : Nat) (bh : Nat) (so : Nat) (ab : Nat) (H : Nat → Nat → Bool) (bb : Nat) (K : Nat → Nat → Bool) (f : Nat → Int) (gf : Nat → Int) (u : Int) (v : Int) (hn : 0 ≤ n ∧ n ≤ 160) (hB : ∀ x y, B x y = true → x < n.toNat ∧ y < n.toNat) (hck : rk = true → cl B n.toNat H K) (hnum : cs = ch → rk = true ∧ numC n.toNat H Nb Ls mn) (hcs : rg cs) (hch : rg ch) (hP : ∀ (H2 K2 : Nat → Nat → Bool) (Nb2 Ls2 : Nat → Int) (mn2 : Int), cl B n.toNat H2 K2 → numC n.toNat H2 Nb2 Ls2 mn2 → 0 ≤ u ∧ u < mn2) (hw : v < 0 ∨ 6 < v) (hv : rg v) :
    vt_C l zy_CG_about zc_CG_about 4 (some .int) { frames := 7, cells := 1, slots := 6, locals := 158 } G "java/lang/IllegalArgumentException" [.ref cg, .int (iI u), .int (iI v)] [ceO 0 cg [.ref y, .ref x, .ref cr], ceO 3 y [.ref wt, .ref cn, .ref sm, .ref gs, .int (iI cs), .ref x, .ref nb, .ref ls, .int (iI mn)], ceI G wt 160 W, ceI G sm 160 g, ceI G nb 160 Nb, ceI G ls 160 Ls, ceO 2 x [.ref w, .ref go, .int (iI ac), .int (iI (bZ rk)), .ref ta, .ref o, .int (iI n), .int (iI ch)], ceO 5 ta [.ref tb], ceJ G tb 480 (tw B), ceO 4 o [.ref ah, .ref bh, .ref so], ceO 5 ah [.ref ab], ceJ G ab 480 (tw H), ceO 5 bh [.ref bb], ceJ G bb 480 (tw K), ceI G so 160 f, ceI G go 160 gf] (fun w7 => ∃ (W2 : Nat → Int) (g2 : Nat → Int) (Nb2 : Nat → Int) (Ls2 : Nat → Int) (mn2 : Int) (H2 : Nat → Nat → Bool) (K2 : Nat → Nat → Bool) (f2 : Nat → Int) (gf2 : Nat → Int), (cl B n.toNat H2 K2) ∧ (numC n.toNat H2 Nb2 Ls2 mn2) ∧ (0 ≤ u ∧ u < mn2) ∧ w7 = [ceO 0 cg [.ref y, .ref x, .ref cr], ceO 3 y [.ref wt, .ref cn, .ref sm, .ref gs, .int (iI ch), .ref x, .ref nb, .ref ls, .int (iI mn2)], ceI G wt 160 W2, ceI G sm 160 g2, ceI G nb 160 Nb2, ceI G ls 160 Ls2, ceO 2 x [.ref w, .ref go, .int (iI ac), .int (iI (bZ true)), .ref ta, .ref o, .int (iI n), .int (iI ch)], ceO 5 ta [.ref tb], ceJ G tb 480 (tw B), ceO 4 o [.ref ah, .ref bh, .ref so], ceO 5 ah [.ref ab], ceJ G ab 480 (tw H2), ceO 5 bh [.ref bb], ceJ G bb 480 (tw K2), ceI G so 160 f2, ceI G go 160 gf2]) := by
  refine vt_met (by decide +kernel) (Nat.le_of_ble_eq_true rfl) rfl ?_
  intro p e s m args below meth c A F E hx0
  refine vv_aload_n F zd_CG_about_0 rfl 0 rfl ?_
  refine vv_get F zd_CG_about_1 zf_CG 0 rfl rfl 0 (by decide) zw_243 rfl ?_
  refine vv_callV (q0 := 1) (As := []) (rest := []) (wr := [ceO 0 cg [.ref y, .ref x, .ref cr]]) F (cn_PA_renewed l G y wt cn sm gs nb ls x w go ta o tb B ah ab bh bb so cs mn ac rk n ch H K f gf W g Nb Ls hn hB hck hnum hcs hch) zm_PA_renewed ⟨zw_258, zw_259⟩ zw_257 zd_CG_about_4 ⟨by decide, by decide⟩ ⟨by decide, by decide⟩ [1, 2, 3, 4, 5, 6, 7, 8, 9, 10, 11, 12, 13, 14, 15] [0] rfl rfl ⟨rfl, rfl, by decide⟩ rfl rfl rfl rfl (Nat.le_of_ble_eq_true rfl) (fun v9 w9 hp9 => ?_)
  obtain ⟨W2_1, g2_2, Nb2_3, Ls2_4, mn2_5, H2_6, K2_7, f2_8, gf2_9, hf1_0, hf1_1, rfl, rfl⟩ := hp9
  refine vv_thenE (ws' := [ceO 0 cg [.ref y, .ref x, .ref cr], ceO 3 y [.ref wt, .ref cn, .ref sm, .ref gs, .int (iI ch), .ref x, .ref nb, .ref ls, .int (iI mn2_5)], ceI G wt 160 W2_1, ceI G sm 160 g2_2, ceI G nb 160 Nb2_3, ceI G ls 160 Ls2_4, ceO 2 x [.ref w, .ref go, .int (iI ac), .int (iI (bZ true)), .ref ta, .ref o, .int (iI n), .int (iI ch)], ceO 5 ta [.ref tb], ceJ G tb 480 (tw B), ceO 4 o [.ref ah, .ref bh, .ref so], ceO 5 ah [.ref ab], ceJ G ab 480 (tw H2_6), ceO 5 bh [.ref bb], ceJ G bb 480 (tw K2_7), ceI G so 160 f2_8, ceI G go 160 gf2_9]) (st' := [.ref y]) (kc' := 0) (ks' := 0) [0, 1, 2, 3, 4, 5, 6, 7, 8, 9, 10, 11, 12, 13, 14, 15] rfl rfl rfl ?_
  have hpp := hP _ _ _ _ _ hf1_0 hf1_1
  obtain ⟨k1, k2, k3, k4⟩ := numC_in hf1_1
  refine vv_astore_n (lv' := [(0, .ref cg), (1, .int (iI u)), (2, .int (iI v)), (3, .ref y)]) F zd_CG_about_7 rfl (by decide) [1, 2, 3, 0] rfl ?_
  refine vv_iload_n F zd_CG_about_8 rfl 1 rfl ?_
  refine vv_if_lt (tgt := 20) F zd_CG_about_9 rfl (by first | exact ⟨by omega, by omega⟩ | exact hv) (fun h1 => ?_) (fun h1 => ?_)
  · exfalso
    omega
  · refine vv_iload_n F zd_CG_about_12 rfl 1 rfl ?_
    refine vv_aload_n F zd_CG_about_13 rfl 3 rfl ?_
    refine vv_get F zd_CG_about_14 zf_PA 1 rfl rfl 8 (by decide) zw_157 rfl ?_
    refine vv_icmp_lt (tgt := 30) F zd_CG_about_17 rfl (by first | exact ⟨by omega, by omega⟩ | exact hv) (by first | exact ⟨by omega, by omega⟩ | exact hv) (fun h2 => ?_) (fun h2 => ?_)
    · refine vv_iload_n F zd_CG_about_30 rfl 2 rfl ?_
      rcases (show (v < 0 ∨ 6 < v) ∨ v = 0 ∨ v = 1 ∨ v = 2 ∨ v = 3 ∨ v = 4 ∨ v = 5 ∨ v = 6 by omega) with h3 | h3 | h3 | h3 | h3 | h3 | h3 | h3
      · refine vv_tableOut (tgt := 115) F zd_CG_about_31 (by first | exact ⟨by omega, by omega⟩ | exact hv) h3 rfl ?_
        exact vt_throw F E hx0 hl zd_CG_about_115 zd_CG_about_118 zd_CG_about_119 zd_CG_about_121 zd_CG_about_124 zw_418 zw_13 zt_588 xa_IA (by decide +kernel) ⟨by decide, by decide⟩ ⟨by decide, by decide⟩ (⟨_, _, _, _, _, _, _, _, _, hf1_0, hf1_1, hpp, rfl⟩)
      · refine vv_tableIn (tgt := 72) F zd_CG_about_31 (by first | exact ⟨by omega, by omega⟩ | exact hv) (by omega) (by omega) (by rw [h3]; rfl) rfl ?_
        exfalso
        omega
      · refine vv_tableIn (tgt := 78) F zd_CG_about_31 (by first | exact ⟨by omega, by omega⟩ | exact hv) (by omega) (by omega) (by rw [h3]; rfl) rfl ?_
        exfalso
        omega
      · refine vv_tableIn (tgt := 85) F zd_CG_about_31 (by first | exact ⟨by omega, by omega⟩ | exact hv) (by omega) (by omega) (by rw [h3]; rfl) rfl ?_
        exfalso
        omega
      · refine vv_tableIn (tgt := 91) F zd_CG_about_31 (by first | exact ⟨by omega, by omega⟩ | exact hv) (by omega) (by omega) (by rw [h3]; rfl) rfl ?_
        exfalso
        omega
      · refine vv_tableIn (tgt := 97) F zd_CG_about_31 (by first | exact ⟨by omega, by omega⟩ | exact hv) (by omega) (by omega) (by rw [h3]; rfl) rfl ?_
        exfalso
        omega
      · refine vv_tableIn (tgt := 103) F zd_CG_about_31 (by first | exact ⟨by omega, by omega⟩ | exact hv) (by omega) (by omega) (by rw [h3]; rfl) rfl ?_
        exfalso
        omega
      · refine vv_tableIn (tgt := 109) F zd_CG_about_31 (by first | exact ⟨by omega, by omega⟩ | exact hv) (by omega) (by omega) (by rw [h3]; rfl) rfl ?_
        exfalso
        omega
    · exfalso
      omega
