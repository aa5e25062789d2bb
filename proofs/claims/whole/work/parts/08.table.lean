set_option maxHeartbeats 4000000 in
set_option maxRecDepth 100000 in
theorem cn_TA_bitOf (l : Launch) (G : vv_G) (q : Int) (hq : 0 ≤ q ∧ q < 192) :
    vv_D l zy_TA_bitOf zc_TA_bitOf 1 (some .long) { frames := 0, cells := 0, slots := 0, locals := 0 } G [.int (iI q)] [] (some (.long (wL (fun j => j == q.toNat % 64)))) [] := by
  refine vv_met (by decide +kernel) (Nat.le_of_ble_eq_true rfl) rfl ?_
  intro p e s m args below meth c A F
  refine vv_lconst 1 F zd_TA_bitOf_0 rfl ?_
  refine vv_iload_n F zd_TA_bitOf_1 rfl 0 rfl ?_
  refine vv_bipush F zd_TA_bitOf_2 (by decide) ?_
  refine vv_irem F zd_TA_bitOf_4 (by first | exact ⟨by omega, by omega⟩) (by decide) (by omega) (by omega) ?_
  refine vv_lshl (v := wL (fun j => j == q.toNat % 64)) F zd_TA_bitOf_5 (bitAt hq) ?_
  exact vv_lret F zd_TA_bitOf_6 ⟨rfl, rfl⟩

set_option maxHeartbeats 4000000 in
set_option maxRecDepth 100000 in
theorem cn_TA_has (l : Launch) (G : vv_G) (a : Nat) (b : Nat) (n : Nat) (B : Nat → Nat → Bool) (r : Int) (q : Int) (hr : 0 ≤ r ∧ 3 * r + 2 < n) (hq : 0 ≤ q ∧ q < 192) (hn : n ≤ 480) :
    vv_D l zy_TA_has zc_TA_has 3 (some .boolean) { frames := 1, cells := 0, slots := 0, locals := 20 } G [.ref a, .int (iI r), .int (iI q)] [ceO 5 a [.ref b], ceJ G b n (tw B)] (some (.int (iI (bZ (B r.toNat q.toNat))))) [ceO 5 a [.ref b], ceJ G b n (tw B)] := by
  refine vv_met (by decide +kernel) (Nat.le_of_ble_eq_true rfl) rfl ?_
  intro p e s m args below meth c A F
  refine vv_aload_n F zd_TA_has_0 rfl 0 rfl ?_
  refine vv_get F zd_TA_has_1 zf_TA 0 rfl rfl 0 (by decide) zw_39 rfl ?_
  refine vv_iload_n F zd_TA_has_4 rfl 1 rfl ?_
  refine vv_iconst F zd_TA_has_5 ?_
  refine vv_imul F zd_TA_has_6 ?_
  refine vv_iload_n F zd_TA_has_7 rfl 2 rfl ?_
  refine vv_bipush F zd_TA_has_8 (by decide) ?_
  refine vv_idiv F zd_TA_has_10 (by first | exact ⟨by omega, by omega⟩ | exact rg_of _) (by decide) (by omega) (by omega) ?_
  refine vv_iadd F zd_TA_has_11 ?_
  refine vv_lald F zd_TA_has_12 1 rfl ⟨by omega, by omega⟩ (by omega) ?_
  refine vv_iload_n F zd_TA_has_13 rfl 2 rfl ?_
  refine vv_callS (As := [.int (iI q)]) (rest := [.long ((tw B) ((r * 3) + (q / 64)).toNat)]) (wr := [ceO 5 a [.ref b], ceJ G b n (tw B)]) F (cn_TA_bitOf l G q hq) zm_TA_bitOf zw_113 zw_112 zd_TA_has_14 ⟨by decide, by decide⟩ ⟨by decide, by decide⟩ [] [0, 1] rfl rfl ⟨rfl, rfl, by decide⟩ rfl rfl (Nat.le_of_ble_eq_true rfl) (vv_then (ws' := [ceO 5 a [.ref b], ceJ G b n (tw B)]) (st' := [.long (wL (fun j => j == q.toNat % 64)), .long ((tw B) ((r * 3) + (q / 64)).toNat)]) [0, 1] rfl rfl rfl ?_)
  refine vv_land F zd_TA_has_17 ?_
  refine vv_lconst 0 F zd_TA_has_18 rfl ?_
  refine vv_lcmp (z := (lg_cmp (((tw B) ((r * 3) + (q / 64)).toNat) &&& (wL (fun j => j == q.toNat % 64))) 0).toInt) F zd_TA_has_19 (iI_of _).symm ?_
  refine vv_if_eq (tgt := 27) F zd_TA_has_20 rfl (by first | exact ⟨by omega, by omega⟩ | exact rg_of _) (fun h1 => ?_) (fun h1 => ?_)
  · refine vv_iconst F zd_TA_has_27 ?_
    exact vv_zret (v := false) F zd_TA_has_28 ⟨by rw [(hasAt hr.1 hq).mp h1], rfl⟩
  · refine vv_iconst F zd_TA_has_23 ?_
    refine vv_goto (tgt := 28) F zd_TA_has_24 rfl ?_
    exact vv_zret (v := true) F zd_TA_has_28 ⟨by rw [show B r.toNat q.toNat = true from by cases hb : B r.toNat q.toNat with | true => rfl | false => exact absurd ((hasAt hr.1 hq).mpr hb) h1], rfl⟩

set_option maxHeartbeats 4000000 in
set_option maxRecDepth 100000 in
theorem cn_TA_put (l : Launch) (G : vv_G) (a : Nat) (b : Nat) (n : Nat) (B : Nat → Nat → Bool) (r : Int) (q : Int) (hr : 0 ≤ r ∧ 3 * r + 2 < n) (hq : 0 ≤ q ∧ q < 192) (hn : n ≤ 480) :
    vv_D l zy_TA_put zc_TA_put 3 none { frames := 1, cells := 0, slots := 0, locals := 20 } G [.ref a, .int (iI r), .int (iI q)] [ceO 5 a [.ref b], ceJ G b n (tw B)] none [ceO 5 a [.ref b], ceJ G b n (tw (bP B r.toNat q.toNat true))] := by
  refine vv_met (by decide +kernel) (Nat.le_of_ble_eq_true rfl) rfl ?_
  intro p e s m args below meth c A F
  refine vv_aload_n F zd_TA_put_0 rfl 0 rfl ?_
  refine vv_get F zd_TA_put_1 zf_TA 0 rfl rfl 0 (by decide) zw_39 rfl ?_
  refine vv_iload_n F zd_TA_put_4 rfl 1 rfl ?_
  refine vv_iconst F zd_TA_put_5 ?_
  refine vv_imul F zd_TA_put_6 ?_
  refine vv_iload_n F zd_TA_put_7 rfl 2 rfl ?_
  refine vv_bipush F zd_TA_put_8 (by decide) ?_
  refine vv_idiv F zd_TA_put_10 (by first | exact ⟨by omega, by omega⟩) (by decide) (by omega) (by omega) ?_
  refine vv_iadd F zd_TA_put_11 ?_
  refine vv_dup2_11 F zd_TA_put_12 rfl rfl ?_
  refine vv_lald F zd_TA_put_13 1 rfl ⟨by omega, by omega⟩ (by omega) ?_
  refine vv_iload_n F zd_TA_put_14 rfl 2 rfl ?_
  refine vv_callS (As := [.int (iI q)]) (rest := [.long ((tw B) ((r * 3) + (q / 64)).toNat), .int (iI ((r * 3) + (q / 64))), .ref b]) (wr := [ceO 5 a [.ref b], ceJ G b n (tw B)]) F (cn_TA_bitOf l G q hq) zm_TA_bitOf zw_113 zw_112 zd_TA_put_15 ⟨by decide, by decide⟩ ⟨by decide, by decide⟩ [] [0, 1] rfl rfl ⟨rfl, rfl, by decide⟩ rfl rfl (Nat.le_of_ble_eq_true rfl) (vv_then (ws' := [ceO 5 a [.ref b], ceJ G b n (tw B)]) (st' := [.long (wL (fun j => j == q.toNat % 64)), .long ((tw B) ((r * 3) + (q / 64)).toNat), .int (iI ((r * 3) + (q / 64))), .ref b]) [0, 1] rfl rfl rfl ?_)
  refine vv_lor F zd_TA_put_18 ?_
  refine vv_last (ws' := [ceO 5 a [.ref b], ceJ G b n (va_up (tw B) ((r * 3) + (q / 64)).toNat (((tw B) ((r * 3) + (q / 64)).toNat) ||| (wL (fun j => j == q.toNat % 64))))]) F zd_TA_put_19 1 rfl ⟨by omega, by omega⟩ (by omega) rfl ?_
  exact vv_vret F zd_TA_put_20 ⟨rfl, by rw [ixAt hr.1 hq, tw_put (by omega)]⟩

set_option maxHeartbeats 4000000 in
set_option maxRecDepth 100000 in
theorem cn_TA_take (l : Launch) (G : vv_G) (a : Nat) (b : Nat) (n : Nat) (B : Nat → Nat → Bool) (r : Int) (q : Int) (hr : 0 ≤ r ∧ 3 * r + 2 < n) (hq : 0 ≤ q ∧ q < 192) (hn : n ≤ 480) :
    vv_D l zy_TA_take zc_TA_take 3 none { frames := 1, cells := 0, slots := 0, locals := 20 } G [.ref a, .int (iI r), .int (iI q)] [ceO 5 a [.ref b], ceJ G b n (tw B)] none [ceO 5 a [.ref b], ceJ G b n (tw (bP B r.toNat q.toNat false))] := by
  refine vv_met (by decide +kernel) (Nat.le_of_ble_eq_true rfl) rfl ?_
  intro p e s m args below meth c A F
  refine vv_aload_n F zd_TA_take_0 rfl 0 rfl ?_
  refine vv_get F zd_TA_take_1 zf_TA 0 rfl rfl 0 (by decide) zw_39 rfl ?_
  refine vv_iload_n F zd_TA_take_4 rfl 1 rfl ?_
  refine vv_iconst F zd_TA_take_5 ?_
  refine vv_imul F zd_TA_take_6 ?_
  refine vv_iload_n F zd_TA_take_7 rfl 2 rfl ?_
  refine vv_bipush F zd_TA_take_8 (by decide) ?_
  refine vv_idiv F zd_TA_take_10 (by first | exact ⟨by omega, by omega⟩) (by decide) (by omega) (by omega) ?_
  refine vv_iadd F zd_TA_take_11 ?_
  refine vv_dup2_11 F zd_TA_take_12 rfl rfl ?_
  refine vv_lald F zd_TA_take_13 1 rfl ⟨by omega, by omega⟩ (by omega) ?_
  refine vv_iload_n F zd_TA_take_14 rfl 2 rfl ?_
  refine vv_callS (As := [.int (iI q)]) (rest := [.long ((tw B) ((r * 3) + (q / 64)).toNat), .int (iI ((r * 3) + (q / 64))), .ref b]) (wr := [ceO 5 a [.ref b], ceJ G b n (tw B)]) F (cn_TA_bitOf l G q hq) zm_TA_bitOf zw_113 zw_112 zd_TA_take_15 ⟨by decide, by decide⟩ ⟨by decide, by decide⟩ [] [0, 1] rfl rfl ⟨rfl, rfl, by decide⟩ rfl rfl (Nat.le_of_ble_eq_true rfl) (vv_then (ws' := [ceO 5 a [.ref b], ceJ G b n (tw B)]) (st' := [.long (wL (fun j => j == q.toNat % 64)), .long ((tw B) ((r * 3) + (q / 64)).toNat), .int (iI ((r * 3) + (q / 64))), .ref b]) [0, 1] rfl rfl rfl ?_)
  refine vv_ldc2 F zd_TA_take_18 zw_404 ?_
  refine vv_lxor F zd_TA_take_21 ?_
  refine vv_land F zd_TA_take_22 ?_
  refine vv_last (ws' := [ceO 5 a [.ref b], ceJ G b n (va_up (tw B) ((r * 3) + (q / 64)).toNat (((tw B) ((r * 3) + (q / 64)).toNat) &&& ((wL (fun j => j == q.toNat % 64)) ^^^ (-1))))]) F zd_TA_take_23 1 rfl ⟨by omega, by omega⟩ (by omega) rfl ?_
  exact vv_vret F zd_TA_take_24 ⟨rfl, by rw [ixAt hr.1 hq, tw_take (by omega)]⟩
