set_option maxHeartbeats 4000000 in
set_option maxRecDepth 100000 in
theorem cn_TA_init160 (l : Launch) (G : vv_G) (a : Nat)  :
    vv_C l zy_TA_init zc_TA_init 2 none { frames := 1, cells := 1, slots := 480, locals := 20 } G [.ref a, .int (iI 160)] [ceO 5 a [.null]] (fun v w => ∃ (b : Nat), v = none ∧ w = [ceO 5 a [.ref b], ceJ G b 480 (tw (fun _ _ => false))]) := by
  refine vv_met (by decide +kernel) (Nat.le_of_ble_eq_true rfl) rfl ?_
  intro p e s m args below meth c A F
  refine vv_aload_n F zd_TA_init_0 rfl 0 rfl ?_
  refine vv_objInit F zd_TA_init_1 zw_38 zw_25 zw_26 (Nat.le_of_ble_eq_true rfl) (by decide) (by decide) ?_
  refine vv_aload_n F zd_TA_init_4 rfl 0 rfl ?_
  refine vv_iload_n F zd_TA_init_5 rfl 1 rfl ?_
  refine vv_iconst F zd_TA_init_6 ?_
  refine vv_imul F zd_TA_init_7 ?_
  refine vv_newaJ (N := 480) F zd_TA_init_8 zw_44 (by omega) (by omega) (by decide) (by decide) (fun a1 => ?_)
  show vv_V _ _ _ _ _ _ _ _ _ _ _ _ _ _ _ [(0, .ref a), (1, .int (iI 160))] [.ref a1, .ref a] [ceO 5 a [.null], ceJ G a1 480 (fun _ => 0)] 1 480
  refine vv_putF (v := .ref a1) (ws' := [ceO 5 a [.ref a1], ceJ G a1 480 (fun _ => 0)]) F zd_TA_init_10 zf_TA zt_TA_ok zn_TA 0 rfl rfl 0 (by decide) zw_39 rfl rfl rfl rfl (by decide) rfl ?_
  exact vv_vret F zd_TA_init_13 ⟨_, rfl, by rw [tw_0]⟩

set_option maxHeartbeats 4000000 in
set_option maxRecDepth 100000 in
theorem cn_TA_init1 (l : Launch) (G : vv_G) (a : Nat)  :
    vv_C l zy_TA_init zc_TA_init 2 none { frames := 1, cells := 1, slots := 3, locals := 20 } G [.ref a, .int (iI 1)] [ceO 5 a [.null]] (fun v w => ∃ (b : Nat), v = none ∧ w = [ceO 5 a [.ref b], ceJ G b 3 (tw (fun _ _ => false))]) := by
  refine vv_met (by decide +kernel) (Nat.le_of_ble_eq_true rfl) rfl ?_
  intro p e s m args below meth c A F
  refine vv_aload_n F zd_TA_init_0 rfl 0 rfl ?_
  refine vv_objInit F zd_TA_init_1 zw_38 zw_25 zw_26 (Nat.le_of_ble_eq_true rfl) (by decide) (by decide) ?_
  refine vv_aload_n F zd_TA_init_4 rfl 0 rfl ?_
  refine vv_iload_n F zd_TA_init_5 rfl 1 rfl ?_
  refine vv_iconst F zd_TA_init_6 ?_
  refine vv_imul F zd_TA_init_7 ?_
  refine vv_newaJ (N := 3) F zd_TA_init_8 zw_44 (by omega) (by omega) (by decide) (by decide) (fun a1 => ?_)
  show vv_V _ _ _ _ _ _ _ _ _ _ _ _ _ _ _ [(0, .ref a), (1, .int (iI 1))] [.ref a1, .ref a] [ceO 5 a [.null], ceJ G a1 3 (fun _ => 0)] 1 3
  refine vv_putF (v := .ref a1) (ws' := [ceO 5 a [.ref a1], ceJ G a1 3 (fun _ => 0)]) F zd_TA_init_10 zf_TA zt_TA_ok zn_TA 0 rfl rfl 0 (by decide) zw_39 rfl rfl rfl rfl (by decide) rfl ?_
  exact vv_vret F zd_TA_init_13 ⟨_, rfl, by rw [tw_0]⟩

set_option maxHeartbeats 4000000 in
set_option maxRecDepth 100000 in
theorem lp_TA_list {p : Program} {l : Launch} {e : Env} {s : State} {m : MethodId} {args : Array Value} {below : List Frame} {meth : Method} {c : Code} {A : Nat → Prop} {Q : State → Prop} {G : vv_G} (F : vv_F p s m args meth c zc_TA_list "ClauseGraph$Table" "list" (some .int) G A 9) (a : Nat) (b : Nat) (n : Nat) (B : Nat → Nat → Bool) (r : Int) (u : Nat) (f0 : Nat → Int) (e0 : Int) (w : Int) (hr : 0 ≤ r ∧ 3 * r + 2 < n) (hn : n ≤ 480) (he : 0 ≤ e0 ∧ e0 + (cN (B r.toNat) 192 : Int) ≤ 160) (hw : 0 ≤ w ∧ w < 3)
    (k : ∀ (y : Int) (x : Int64) (f : Nat → Int), (∃ t : Nat, t ≤ 64 ∧ x = wL (fun j => decide (t ≤ j) && B r.toNat (64 * w.toNat + j)) ∧ y = e0 + (cN (B r.toNat) (64 * w.toNat + t) : Int) ∧ (0 : Int) + (cN (B r.toNat) (64 * w.toNat + t) : Int) = (cN (B r.toNat) (64 * w.toNat + 64) : Int) ∧ lsd (B r.toNat) (64 * w.toNat + t) e0.toNat f0 f) → vv_V p l e { frames := 2, cells := 0, slots := 0, locals := 42 } s m args below meth c G A 9 Q 77 [(0, .ref a), (1, .int (iI r)), (2, .ref u), (3, .int (iI e0)), (4, .int (iI y)), (5, .int (iI w)), (6, .long x), (8, .int (iI (0 : Int)))] [] [ceO 5 a [.ref b], ceJ G b n (tw B), ceI G u 160 f] 0 0)  :
    ∀ (d : Nat) (z : Int) (y : Int) (x : Int64) (f : Nat → Int), z = (0 : Int) + (d : Int) → (∃ t : Nat, t ≤ 64 ∧ x = wL (fun j => decide (t ≤ j) && B r.toNat (64 * w.toNat + j)) ∧ y = e0 + (cN (B r.toNat) (64 * w.toNat + t) : Int) ∧ z + (cN (B r.toNat) (64 * w.toNat + t) : Int) = (cN (B r.toNat) (64 * w.toNat + 64) : Int) ∧ lsd (B r.toNat) (64 * w.toNat + t) e0.toNat f0 f) → vv_V p l e { frames := 2, cells := 0, slots := 0, locals := 42 } s m args below meth c G A 9 Q 32 [(0, .ref a), (1, .int (iI r)), (2, .ref u), (3, .int (iI e0)), (4, .int (iI y)), (5, .int (iI w)), (6, .long x), (8, .int (iI z))] [] [ceO 5 a [.ref b], ceJ G b n (tw B), ceI G u 160 f] 0 0 := by
  intro d
  induction d with
  | zero =>
    intro z y x f hd hI
    have hz : z = (0 : Int) := by omega
    subst hz
    refine vv_iload F zd_TA_list_32 7 rfl ?_
    refine vv_if_le (tgt := 77) F zd_TA_list_34 rfl (by first | exact ⟨by omega, by omega⟩) (fun _ => ?_) (fun h9 => absurd h9 (by omega))
    exact k y x f hI
  | succ d ih =>
    intro z y x f hd hI
    obtain ⟨t, ht, hx, hy, hz, hf⟩ := hI
    have hc1 := cN_from (g := fun j => B r.toNat (64 * w.toNat + j)) (n := 64) ht
    have hc2 := cN_split (B r.toNat) (64 * w.toNat) t
    have hc3 := cN_split (B r.toNat) (64 * w.toNat) 64
    have hc4 := cN_mono (B r.toNat) (show 64 * w.toNat + 64 ≤ 192 by omega)
    obtain ⟨v, hv, hg, h0⟩ := least_of (g := fun j => decide (t ≤ j) && B r.toNat (64 * w.toNat + j)) 64 (by omega)
    have htv : t ≤ v := by
      have := hg; simp at this; exact this.1
    have hBv : B r.toNat (64 * w.toNat + v) = true := by
      have := hg; simp at this; exact this.2
    have hno : ∀ p, 64 * w.toNat + t ≤ p → p < 64 * w.toNat + v → B r.toNat p = false := fun p hp1 hp2 => by
      have := h0 (p - 64 * w.toNat) (by omega)
      simp only [show t ≤ p - 64 * w.toNat by omega, decide_true, Bool.true_and, show 64 * w.toNat + (p - 64 * w.toNat) = p by omega] at this
      exact this
    have hsk : cN (B r.toNat) (64 * w.toNat + v) = cN (B r.toNat) (64 * w.toNat + t) := by
      have h1 := cN_from (g := fun j => B r.toNat (64 * w.toNat + t + j)) (t := 0) (n := v - t) (by omega)
      have h2 := cN_split (B r.toNat) (64 * w.toNat + t) (v - t)
      have h3 : cN (fun j => B r.toNat (64 * w.toNat + t + j)) (v - t) = 0 := by
        have h4 : ∀ k, k ≤ v - t → cN (fun j => B r.toNat (64 * w.toNat + t + j)) k = 0 := by
          intro k
          induction k with
          | zero => intro _; rfl
          | succ k ihk => intro hk; rw [cN_f (g := fun j => B r.toNat (64 * w.toNat + t + j)) (hno _ (by omega) (by omega)), ihk (by omega)]
        exact h4 _ (Nat.le_refl _)
      rw [show 64 * w.toNat + t + (v - t) = 64 * w.toNat + v by omega] at h2
      omega
    refine vv_iload F zd_TA_list_32 7 rfl ?_
    refine vv_if_le (tgt := 77) F zd_TA_list_34 rfl (by first | exact ⟨by omega, by omega⟩) (fun h9 => absurd h9 (by omega)) (fun _ => ?_)
    refine vv_iload F zd_TA_list_37 4 rfl ?_
    refine vv_aload_n F zd_TA_list_39 rfl 2 rfl ?_
    refine vv_alenI F zd_TA_list_40 2 rfl ?_
    show vv_V _ _ _ _ _ _ _ _ _ _ _ _ _ _ _ _ [.int (iI 160), .int (iI y)] _ _ _
    refine vv_icmp_ge (tgt := 77) F zd_TA_list_41 rfl (by first | exact ⟨by omega, by omega⟩) (by decide) (fun h9 => absurd h9 (by omega)) (fun _ => ?_)
    refine vv_aload_n F zd_TA_list_44 rfl 2 rfl ?_
    refine vv_iload F zd_TA_list_45 4 rfl ?_
    refine vv_iload F zd_TA_list_47 5 rfl ?_
    refine vv_bipush F zd_TA_list_49 (by decide) ?_
    refine vv_imul F zd_TA_list_51 ?_
    refine vv_lload F zd_TA_list_52 6 rfl ?_
    refine vv_tj hx ?_
    refine vv_callS (As := [.long (wL (fun j => decide (t ≤ j) && B r.toNat (64 * w.toNat + j)))]) (rest := [.int (iI (w * 64)), .int (iI y), .ref u]) (wr := [ceO 5 a [.ref b], ceJ G b n (tw B), ceI G u 160 f]) F (cn_TA_lowestOf l G (fun j => decide (t ≤ j) && B r.toNat (64 * w.toNat + j)) v h0 hg hv) zm_TA_lowestOf zw_280 zw_279 zd_TA_list_54 ⟨by decide, by decide⟩ ⟨by decide, by decide⟩ [] [0, 1, 2] rfl rfl ⟨rfl, rfl, by decide⟩ rfl rfl (Nat.le_of_ble_eq_true rfl) (vv_then (ws' := [ceO 5 a [.ref b], ceJ G b n (tw B), ceI G u 160 f]) (st' := [.int (iI (v : Int)), .int (iI (w * 64)), .int (iI y), .ref u]) [0, 1, 2] rfl rfl rfl ?_)
    refine vv_iadd F zd_TA_list_57 ?_
    refine vv_ti (show (w * 64) + (v : Int) = ((64 * w.toNat + v : Nat) : Int) by omega) ?_
    refine vv_iast (x := ((64 * w.toNat + v : Nat) : Int)) (ws' := [ceO 5 a [.ref b], ceJ G b n (tw B), ceI G u 160 (va_up f y.toNat ((64 * w.toNat + v : Nat) : Int))]) F zd_TA_list_58 2 rfl ⟨by omega, by omega⟩ (by decide) rfl ?_
    refine vv_iinc (j := 4) (lv' := [(0, .ref a), (1, .int (iI r)), (2, .ref u), (3, .int (iI e0)), (4, .int (iI (y + 1))), (5, .int (iI w)), (6, .long x), (8, .int (iI z))]) F zd_TA_list_59 rfl (by decide) [1, 2, 3, 4, 0, 5, 6, 7] rfl ?_
    refine vv_lload F zd_TA_list_62 6 rfl ?_
    refine vv_lload F zd_TA_list_64 6 rfl ?_
    refine vv_lconst 1 F zd_TA_list_66 rfl ?_
    refine vv_lsub F zd_TA_list_67 ?_
    refine vv_land F zd_TA_list_68 ?_
    refine vv_lstore (lv' := [(0, .ref a), (1, .int (iI r)), (2, .ref u), (3, .int (iI e0)), (4, .int (iI (y + 1))), (5, .int (iI w)), (6, .long (x &&& (x - 1))), (8, .int (iI z))]) F zd_TA_list_69 (by decide) [1, 2, 3, 4, 5, 6, 0, 7] rfl ?_
    refine vv_iinc (j := 7) (lv' := [(0, .ref a), (1, .int (iI r)), (2, .ref u), (3, .int (iI e0)), (4, .int (iI (y + 1))), (5, .int (iI w)), (6, .long (x &&& (x - 1))), (8, .int (iI (z + (-1))))]) F zd_TA_list_71 rfl (by decide) [1, 2, 3, 4, 5, 6, 7, 0] rfl ?_
    refine vv_goto (tgt := 32) F zd_TA_list_74 rfl ?_
    exact ih (z - 1) (y + 1) (x &&& (x - 1)) (va_up f y.toNat ((64 * w.toNat + v : Nat) : Int)) (by omega) (⟨v + 1, by omega, by rw [hx, wL_and1 h0 hg hv]; exact wL_congr (fun j _ => by
      by_cases q : v < j
      · simp [q, show t ≤ j by omega, show v + 1 ≤ j by omega]
      · simp [q, show ¬ v + 1 ≤ j by omega]), by
        have h9 := cN_t hBv
        rw [show 64 * w.toNat + (v + 1) = 64 * w.toNat + v + 1 by omega, h9]; omega, by
        have h9 := cN_t hBv
        rw [show 64 * w.toNat + (v + 1) = 64 * w.toNat + v + 1 by omega, h9]; omega, by
        have h8 := lsd_put hf (by omega) hno hBv
        rwa [show e0.toNat + cN (B r.toNat) (64 * w.toNat + t) = y.toNat by omega] at h8⟩)

theorem li_end {g : Nat → Bool} {w : Int} {e : Nat} {f0 f : Nat → Int} {t : Nat} (ht : t ≤ 64) (hz : (0 : Int) + (cN g (64 * w.toNat + t) : Int) = (cN g (64 * w.toNat + 64) : Int)) (h : lsd g (64 * w.toNat + t) e f0 f) : lsd g (64 * w.toNat + 64) e f0 f := by
  refine lsd_skip h (by omega) (fun p h1 h2 => ?_)
  cases hb : g p with
  | false => rfl
  | true =>
    have h3 := cN_mono g h1
    have h4 := cN_strict h2 hb
    omega

set_option maxHeartbeats 4000000 in
set_option maxRecDepth 100000 in
theorem cn_TA_list (l : Launch) (G : vv_G) (a : Nat) (b : Nat) (n : Nat) (B : Nat → Nat → Bool) (r : Int) (u : Nat) (f : Nat → Int) (e0 : Int) (hr : 0 ≤ r ∧ 3 * r + 2 < n) (hn : n ≤ 480) (he : 0 ≤ e0 ∧ e0 + (cN (B r.toNat) 192 : Int) ≤ 160) :
    vv_C l zy_TA_list zc_TA_list 9 (some .int) { frames := 2, cells := 0, slots := 0, locals := 42 } G [.ref a, .int (iI r), .ref u, .int (iI e0)] [ceO 5 a [.ref b], ceJ G b n (tw B), ceI G u 160 f] (fun v w => ∃ (f2 : Nat → Int), (lsd (B r.toNat) 192 e0.toNat f f2) ∧ v = some (.int (iI (e0 + (cN (B r.toNat) 192 : Int)))) ∧ w = [ceO 5 a [.ref b], ceJ G b n (tw B), ceI G u 160 f2]) := by
  refine vv_met (by decide +kernel) (Nat.le_of_ble_eq_true rfl) rfl ?_
  intro p e s m args below meth c A F
  refine vv_iload_n F zd_TA_list_0 rfl 3 rfl ?_
  refine vv_istore (lv' := [(0, .ref a), (1, .int (iI r)), (2, .ref u), (3, .int (iI e0)), (4, .int (iI e0))]) F zd_TA_list_1 (by decide) [1, 2, 3, 4, 0] rfl ?_
  refine vv_iconst F zd_TA_list_3 ?_
  refine vv_istore (lv' := [(0, .ref a), (1, .int (iI r)), (2, .ref u), (3, .int (iI e0)), (4, .int (iI e0)), (5, .int (iI 0))]) F zd_TA_list_4 (by decide) [1, 2, 3, 4, 5, 0] rfl ?_
  refine vv_iload F zd_TA_list_6 5 rfl ?_
  refine vv_iconst F zd_TA_list_8 ?_
  refine vv_icmp_ge (tgt := 83) F zd_TA_list_9 rfl (by decide) (by decide) (fun h9 => absurd h9 (by decide)) (fun _ => ?_)
  refine vv_aload_n F zd_TA_list_12 rfl 0 rfl ?_
  refine vv_get F zd_TA_list_13 zf_TA 0 rfl rfl 0 (by decide) zw_39 rfl ?_
  refine vv_iload_n F zd_TA_list_16 rfl 1 rfl ?_
  refine vv_iconst F zd_TA_list_17 ?_
  refine vv_imul F zd_TA_list_18 ?_
  refine vv_iload F zd_TA_list_19 5 rfl ?_
  refine vv_iadd F zd_TA_list_21 ?_
  refine vv_lald F zd_TA_list_22 1 rfl ⟨by omega, by omega⟩ (by omega) ?_
  refine vv_tj (tw_wL (i := 0) hr.1 ⟨by decide, by decide⟩) ?_
  refine vv_lstore (lv' := [(0, .ref a), (1, .int (iI r)), (2, .ref u), (3, .int (iI e0)), (4, .int (iI e0)), (5, .int (iI 0)), (6, .long (wL (fun j => B r.toNat (64 * 0 + j))))]) F zd_TA_list_23 (by decide) [1, 2, 3, 4, 5, 6, 0] rfl ?_
  refine vv_lload F zd_TA_list_25 6 rfl ?_
  refine vv_callS (As := [.long (wL (fun j => B r.toNat (64 * 0 + j)))]) (rest := []) (wr := [ceO 5 a [.ref b], ceJ G b n (tw B), ceI G u 160 f]) F (cn_LO_bitCount l G (fun j => B r.toNat (64 * 0 + j))) zm_LO_bitCount zw_274 zw_273 zd_TA_list_27 ⟨by decide, by decide⟩ ⟨by decide, by decide⟩ [] [0, 1, 2] rfl rfl ⟨rfl, rfl, by decide⟩ rfl rfl (Nat.le_of_ble_eq_true rfl) (vv_then (ws' := [ceO 5 a [.ref b], ceJ G b n (tw B), ceI G u 160 f]) (st' := [.int (iI (cN (fun j => B r.toNat (64 * 0 + j)) 64 : Int))]) [0, 1, 2] rfl rfl rfl ?_)
  refine vv_istore (lv' := [(0, .ref a), (1, .int (iI r)), (2, .ref u), (3, .int (iI e0)), (4, .int (iI e0)), (5, .int (iI 0)), (6, .long (wL (fun j => B r.toNat (64 * 0 + j)))), (8, .int (iI (cN (fun j => B r.toNat (64 * 0 + j)) 64 : Int)))]) F zd_TA_list_30 (by decide) [1, 2, 3, 4, 5, 6, 7, 0] rfl ?_
  refine lp_TA_list F a b n B r u f e0 0 hr hn he ⟨by decide, by decide⟩ (fun y0 x0 f0 hI0 => ?_) (cN (fun j => B r.toNat (64 * 0 + j)) 64) _ e0 _ f (by omega) ⟨0, by omega, wL_congr (fun j _ => by simp), ?_, ?_, ?_⟩
  rotate_left
  · show e0 = e0 + (cN (B r.toNat) (64 * 0 + 0) : Int); simp [cN]
  · have h9 := cN_split (B r.toNat) (64 * 0) 64; show (cN (fun j => B r.toNat (64 * 0 + j)) 64 : Int) + (cN (B r.toNat) (64 * 0 + 0) : Int) = (cN (B r.toNat) (64 * 0 + 64) : Int); simp only [Nat.add_zero]; omega
  · exact lsd_0
  obtain ⟨t0, ht0, hx0, hyy0, hz0, hff0⟩ := hI0
  have hl1 := li_end (w := 0) ht0 hz0 hff0
  have hy1 : y0 = e0 + (cN (B r.toNat) (64 * 1) : Int) := by rw [hyy0]; have h9 := hz0; rw [show 64 * (0 : Int).toNat + 64 = 64 * 1 from rfl] at h9; omega
  refine vv_iinc (j := 5) (lv' := [(0, .ref a), (1, .int (iI r)), (2, .ref u), (3, .int (iI e0)), (4, .int (iI y0)), (5, .int (iI 1)), (6, .long x0), (8, .int (iI (0 : Int)))]) F zd_TA_list_77 rfl (by decide) [1, 2, 3, 4, 5, 0, 6, 7] rfl ?_
  refine vv_goto (tgt := 6) F zd_TA_list_80 rfl ?_
  refine vv_iload F zd_TA_list_6 5 rfl ?_
  refine vv_iconst F zd_TA_list_8 ?_
  refine vv_icmp_ge (tgt := 83) F zd_TA_list_9 rfl (by decide) (by decide) (fun h9 => absurd h9 (by decide)) (fun _ => ?_)
  refine vv_aload_n F zd_TA_list_12 rfl 0 rfl ?_
  refine vv_get F zd_TA_list_13 zf_TA 0 rfl rfl 0 (by decide) zw_39 rfl ?_
  refine vv_iload_n F zd_TA_list_16 rfl 1 rfl ?_
  refine vv_iconst F zd_TA_list_17 ?_
  refine vv_imul F zd_TA_list_18 ?_
  refine vv_iload F zd_TA_list_19 5 rfl ?_
  refine vv_iadd F zd_TA_list_21 ?_
  refine vv_lald F zd_TA_list_22 1 rfl ⟨by omega, by omega⟩ (by omega) ?_
  refine vv_tj (tw_wL (i := 1) hr.1 ⟨by decide, by decide⟩) ?_
  refine vv_lstore (lv' := [(0, .ref a), (1, .int (iI r)), (2, .ref u), (3, .int (iI e0)), (4, .int (iI y0)), (5, .int (iI 1)), (6, .long (wL (fun j => B r.toNat (64 * 1 + j)))), (8, .int (iI (0 : Int)))]) F zd_TA_list_23 (by decide) [1, 2, 3, 4, 5, 6, 0, 7] rfl ?_
  refine vv_lload F zd_TA_list_25 6 rfl ?_
  refine vv_callS (As := [.long (wL (fun j => B r.toNat (64 * 1 + j)))]) (rest := []) (wr := [ceO 5 a [.ref b], ceJ G b n (tw B), ceI G u 160 f0]) F (cn_LO_bitCount l G (fun j => B r.toNat (64 * 1 + j))) zm_LO_bitCount zw_274 zw_273 zd_TA_list_27 ⟨by decide, by decide⟩ ⟨by decide, by decide⟩ [] [0, 1, 2] rfl rfl ⟨rfl, rfl, by decide⟩ rfl rfl (Nat.le_of_ble_eq_true rfl) (vv_then (ws' := [ceO 5 a [.ref b], ceJ G b n (tw B), ceI G u 160 f0]) (st' := [.int (iI (cN (fun j => B r.toNat (64 * 1 + j)) 64 : Int))]) [0, 1, 2] rfl rfl rfl ?_)
  refine vv_istore (lv' := [(0, .ref a), (1, .int (iI r)), (2, .ref u), (3, .int (iI e0)), (4, .int (iI y0)), (5, .int (iI 1)), (6, .long (wL (fun j => B r.toNat (64 * 1 + j)))), (8, .int (iI (cN (fun j => B r.toNat (64 * 1 + j)) 64 : Int)))]) F zd_TA_list_30 (by decide) [1, 2, 3, 4, 5, 6, 7, 0] rfl ?_
  refine lp_TA_list F a b n B r u f e0 1 hr hn he ⟨by decide, by decide⟩ (fun y1 x1 f1 hI1 => ?_) (cN (fun j => B r.toNat (64 * 1 + j)) 64) _ y0 _ f0 (by omega) ⟨0, by omega, wL_congr (fun j _ => by simp), ?_, ?_, ?_⟩
  rotate_left
  · show y0 = e0 + (cN (B r.toNat) (64 * 1 + 0) : Int); exact hy1
  · have h9 := cN_split (B r.toNat) (64 * 1) 64; show (cN (fun j => B r.toNat (64 * 1 + j)) 64 : Int) + (cN (B r.toNat) (64 * 1 + 0) : Int) = (cN (B r.toNat) (64 * 1 + 64) : Int); simp only [Nat.add_zero]; omega
  · exact hl1
  obtain ⟨t1, ht1, hx1, hyy1, hz1, hff1⟩ := hI1
  have hl2 := li_end (w := 1) ht1 hz1 hff1
  have hy2 : y1 = e0 + (cN (B r.toNat) (64 * 2) : Int) := by rw [hyy1]; have h9 := hz1; rw [show 64 * (1 : Int).toNat + 64 = 64 * 2 from rfl] at h9; omega
  refine vv_iinc (j := 5) (lv' := [(0, .ref a), (1, .int (iI r)), (2, .ref u), (3, .int (iI e0)), (4, .int (iI y1)), (5, .int (iI 2)), (6, .long x1), (8, .int (iI (0 : Int)))]) F zd_TA_list_77 rfl (by decide) [1, 2, 3, 4, 5, 0, 6, 7] rfl ?_
  refine vv_goto (tgt := 6) F zd_TA_list_80 rfl ?_
  refine vv_iload F zd_TA_list_6 5 rfl ?_
  refine vv_iconst F zd_TA_list_8 ?_
  refine vv_icmp_ge (tgt := 83) F zd_TA_list_9 rfl (by decide) (by decide) (fun h9 => absurd h9 (by decide)) (fun _ => ?_)
  refine vv_aload_n F zd_TA_list_12 rfl 0 rfl ?_
  refine vv_get F zd_TA_list_13 zf_TA 0 rfl rfl 0 (by decide) zw_39 rfl ?_
  refine vv_iload_n F zd_TA_list_16 rfl 1 rfl ?_
  refine vv_iconst F zd_TA_list_17 ?_
  refine vv_imul F zd_TA_list_18 ?_
  refine vv_iload F zd_TA_list_19 5 rfl ?_
  refine vv_iadd F zd_TA_list_21 ?_
  refine vv_lald F zd_TA_list_22 1 rfl ⟨by omega, by omega⟩ (by omega) ?_
  refine vv_tj (tw_wL (i := 2) hr.1 ⟨by decide, by decide⟩) ?_
  refine vv_lstore (lv' := [(0, .ref a), (1, .int (iI r)), (2, .ref u), (3, .int (iI e0)), (4, .int (iI y1)), (5, .int (iI 2)), (6, .long (wL (fun j => B r.toNat (64 * 2 + j)))), (8, .int (iI (0 : Int)))]) F zd_TA_list_23 (by decide) [1, 2, 3, 4, 5, 6, 0, 7] rfl ?_
  refine vv_lload F zd_TA_list_25 6 rfl ?_
  refine vv_callS (As := [.long (wL (fun j => B r.toNat (64 * 2 + j)))]) (rest := []) (wr := [ceO 5 a [.ref b], ceJ G b n (tw B), ceI G u 160 f1]) F (cn_LO_bitCount l G (fun j => B r.toNat (64 * 2 + j))) zm_LO_bitCount zw_274 zw_273 zd_TA_list_27 ⟨by decide, by decide⟩ ⟨by decide, by decide⟩ [] [0, 1, 2] rfl rfl ⟨rfl, rfl, by decide⟩ rfl rfl (Nat.le_of_ble_eq_true rfl) (vv_then (ws' := [ceO 5 a [.ref b], ceJ G b n (tw B), ceI G u 160 f1]) (st' := [.int (iI (cN (fun j => B r.toNat (64 * 2 + j)) 64 : Int))]) [0, 1, 2] rfl rfl rfl ?_)
  refine vv_istore (lv' := [(0, .ref a), (1, .int (iI r)), (2, .ref u), (3, .int (iI e0)), (4, .int (iI y1)), (5, .int (iI 2)), (6, .long (wL (fun j => B r.toNat (64 * 2 + j)))), (8, .int (iI (cN (fun j => B r.toNat (64 * 2 + j)) 64 : Int)))]) F zd_TA_list_30 (by decide) [1, 2, 3, 4, 5, 6, 7, 0] rfl ?_
  refine lp_TA_list F a b n B r u f e0 2 hr hn he ⟨by decide, by decide⟩ (fun y2 x2 f2 hI2 => ?_) (cN (fun j => B r.toNat (64 * 2 + j)) 64) _ y1 _ f1 (by omega) ⟨0, by omega, wL_congr (fun j _ => by simp), ?_, ?_, ?_⟩
  rotate_left
  · show y1 = e0 + (cN (B r.toNat) (64 * 2 + 0) : Int); exact hy2
  · have h9 := cN_split (B r.toNat) (64 * 2) 64; show (cN (fun j => B r.toNat (64 * 2 + j)) 64 : Int) + (cN (B r.toNat) (64 * 2 + 0) : Int) = (cN (B r.toNat) (64 * 2 + 64) : Int); simp only [Nat.add_zero]; omega
  · exact hl2
  obtain ⟨t2, ht2, hx2, hyy2, hz2, hff2⟩ := hI2
  have hl3 := li_end (w := 2) ht2 hz2 hff2
  have hy3 : y2 = e0 + (cN (B r.toNat) (64 * 3) : Int) := by rw [hyy2]; have h9 := hz2; rw [show 64 * (2 : Int).toNat + 64 = 64 * 3 from rfl] at h9; omega
  refine vv_iinc (j := 5) (lv' := [(0, .ref a), (1, .int (iI r)), (2, .ref u), (3, .int (iI e0)), (4, .int (iI y2)), (5, .int (iI 3)), (6, .long x2), (8, .int (iI (0 : Int)))]) F zd_TA_list_77 rfl (by decide) [1, 2, 3, 4, 5, 0, 6, 7] rfl ?_
  refine vv_goto (tgt := 6) F zd_TA_list_80 rfl ?_
  refine vv_iload F zd_TA_list_6 5 rfl ?_
  refine vv_iconst F zd_TA_list_8 ?_
  refine vv_icmp_ge (tgt := 83) F zd_TA_list_9 rfl (by decide) (by decide) (fun _ => ?_) (fun h9 => absurd h9 (by decide))
  refine vv_iload F zd_TA_list_83 4 rfl ?_
  exact vv_iret F zd_TA_list_85 ⟨f2, hl3, by rw [hy3], rfl⟩
