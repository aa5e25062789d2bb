/-! call by call: the class's answer is the reference's, and the common state goes on (pure) -/
section TC
variable {j n ac ch cs mn u v k th z mnm n2 ac2 mnm2 : Int} {rk gk gk2 : Bool} {B B2 H K Hm Dm Hm2 Dm2 : Nat → Nat → Bool} {f W g gf Nb Ls Nbm Lsm Cm Nbm2 Lsm2 Cm2 : Nat → Int} {fo : Nat → Int64}
theorem k01 {k : Int} (h : k = 0 ∨ k = 1 ∨ k = 2) : 0 ≤ k ∧ k ≤ 2 := by omega
theorem tc_nodes {s1 s3 s4 : Int} {s2 : Bool} {s5 s6 s7 : Nat → Nat → Bool} (hC : gC j B n ac rk ch H K cs mn Nb Ls) (hM : gM B n gk Hm Nbm Lsm mnm Dm Cm) (hp : pw_nodes ac rk n ch B H K f u s1 s2 s3 s4 s5 s6 s7 k) (hm : mnod n ac gk B u th n2 ac2 gk2 B2) :
    (th = k ∧ 0 ≤ k ∧ k ≤ 2) ∧ s1 = ac2 ∧ s3 = n2 ∧ s5 = B2 ∧ gC (j + 1) s5 s3 s1 s2 s4 s6 s7 cs mn Nb Ls ∧ gM s5 s3 gk2 Hm Nbm Lsm mnm Dm Cm := by
  rcases hp with ⟨hu, rfl, rfl, rfl, rfl, rfl, rfl, rfl, rfl⟩ | ⟨hu, rfl, rfl, rfl, rfl, rfl, rfl, rfl, rfl⟩
  · rcases hm with ⟨c, -⟩ | ⟨-, -, rfl, rfl, rfl, rfl, rfl⟩
    · omega
    · exact ⟨⟨rfl, by omega, by omega⟩, rfl, rfl, rfl, gC_begin hu hC.2.2.2.2.2.2, fun q => (by cases q)⟩
  · rcases hm with ⟨-, rfl, rfl, rfl, rfl, rfl⟩ | ⟨c1, c2, -⟩
    · exact ⟨⟨rfl, by omega, by omega⟩, rfl, rfl, rfl, gC_next hC, hM⟩
    · omega
theorem tc_arc {s1 s2 : Int} {s3 s4 s5 : Nat → Nat → Bool} {s6 : Nat → Int} {s7 : Nat → Int64} (hC : gC j B n ac rk ch H K cs mn Nb Ls) (hM : gM B n gk Hm Nbm Lsm mnm Dm Cm) (hp : pw_arc ac rk n ch B H K f fo u v s1 s2 s3 s4 s5 s6 s7 k) (hm : marc n ac gk B u v th ac2 gk2 B2 z) :
    (th = k ∧ 0 ≤ k ∧ k ≤ 2) ∧ (k = 0 → s7 0 = (iI z).toInt64) ∧ s1 = ac2 ∧ s3 = B2 ∧ gC (j + 1) s3 n s1 rk s2 s4 s5 cs mn Nb Ls ∧ gM s3 n gk2 Hm Nbm Lsm mnm Dm Cm := by
  rcases hp with ⟨B', ac', ch', H', K', f', z', fo', ⟨hu, hv⟩, hn, hfo, rfl, rfl, rfl, rfl, rfl, rfl, rfl, rfl⟩ | ⟨hb, rfl, rfl, rfl, rfl, rfl, rfl, rfl, rfl⟩
  · have hC2 := gC_add hC hu hv hn
    rcases hm with ⟨c, -⟩ | ⟨-, -, c, rfl, rfl, rfl, rfl, rfl⟩ | ⟨-, -, c1, c2, rfl, rfl, rfl, rfl, rfl⟩
    · unfold nno at c; omega
    · rcases hn with ⟨rfl, b, rfl, rfl, rfl, rfl, rfl⟩ | ⟨rfl, b1, b2, -⟩
      · exact ⟨⟨rfl, by omega, by omega⟩, fun _ => hfo, rfl, rfl, hC2, hM⟩
      · rcases c with c | c
        · rw [b1] at c; cases c
        · omega
    · rcases hn with ⟨rfl, b, -⟩ | ⟨rfl, b1, b2, rfl, rfl, rfl, rfl, rfl⟩
      · have := hC.2.2.1
        rcases b with b | b
        · rw [c1] at b; cases b
        · omega
      · exact ⟨⟨rfl, by omega, by omega⟩, fun _ => hfo, rfl, rfl, hC2, fun q => (by cases q)⟩
  · rcases hm with ⟨-, rfl, rfl, rfl, rfl, rfl⟩ | ⟨c1, c2, -⟩ | ⟨c1, c2, -⟩
    · exact ⟨⟨rfl, by omega, by omega⟩, fun q => by omega, rfl, rfl, gC_next hC, hM⟩
    · omega
    · omega
theorem tc_cut {zb : Bool} {s1 s3 : Int} {s2 : Bool} {s4 : Nat → Nat → Bool} {s5 : Nat → Int64} (hC : gC j B n ac rk ch H K cs mn Nb Ls) (hM : gM B n gk Hm Nbm Lsm mnm Dm Cm) (hp : pw_cut ac rk n ch B fo u v s1 s2 s3 s4 s5 k) (hm : mcut n ac gk B u v th ac2 gk2 B2 zb) :
    (th = k ∧ 0 ≤ k ∧ k ≤ 2) ∧ (k = 0 → s5 0 = (if zb = true then 1 else 0)) ∧ s1 = ac2 ∧ s4 = B2 ∧ gC (j + 1) s4 n s1 s2 s3 H K cs mn Nb Ls ∧ gM s4 n gk2 Hm Nbm Lsm mnm Dm Cm := by
  rcases hp with ⟨B', ac', rk', ch', z', fo', ⟨hu, hv⟩, hn, hfo, rfl, rfl, rfl, rfl, rfl, rfl⟩ | ⟨hb, rfl, rfl, rfl, rfl, rfl, rfl⟩
  · have hC2 := gC_rem hC hu hv hn
    rcases hm with ⟨c, -⟩ | ⟨-, -, c, rfl, rfl, rfl, rfl, rfl⟩ | ⟨-, -, c1, rfl, rfl, rfl, rfl, rfl⟩
    · unfold nno at c; omega
    · rcases hn with ⟨rfl, b, rfl, rfl, rfl, rfl⟩ | ⟨rfl, b1, -⟩
      · exact ⟨⟨rfl, by omega, by omega⟩, fun _ => hfo, rfl, rfl, hC2, hM⟩
      · rw [b1] at c; cases c
    · rcases hn with ⟨rfl, b, -⟩ | ⟨rfl, b1, rfl, rfl, rfl, rfl⟩
      · rw [c1] at b; cases b
      · exact ⟨⟨rfl, by omega, by omega⟩, fun _ => hfo, rfl, rfl, hC2, fun q => (by cases q)⟩
  · rcases hm with ⟨-, rfl, rfl, rfl, rfl, rfl⟩ | ⟨c1, c2, -⟩ | ⟨c1, c2, -⟩
    · exact ⟨⟨rfl, by omega, by omega⟩, fun q => by omega, rfl, rfl, gC_next hC, hM⟩
    · omega
    · omega
theorem tc_walk {s1 s2 : Nat → Int} {s3 s4 : Nat → Nat → Bool} {s5 : Nat → Int64} {q r : Nat → Int} {S Fr : Nat → Nat → Bool} (hC : gC j B n ac rk ch H K cs mn Nb Ls) (hp : pw_walk ac rk n ch q r S Fr B fo u v s1 s2 s3 s4 s5 k) (hm : ((nno n u ∨ nno n v) ∧ th = 1 ∧ z = 0) ∨ ((0 ≤ u ∧ u < n) ∧ (0 ≤ v ∧ v < n) ∧ th = 0 ∧ shB B u.toNat v.toNat z)) :
    (th = k ∧ 0 ≤ k ∧ k ≤ 2) ∧ (k = 0 → s5 0 = (iI z).toInt64) := by
  rcases hp with ⟨q', r', S', F', z', fo', ⟨hu, hv⟩, hn, hfo, rfl, rfl, rfl, rfl, rfl, rfl⟩ | ⟨hb, rfl, rfl, rfl, rfl, rfl, rfl⟩
  · rcases hm with ⟨c, -⟩ | ⟨-, -, rfl, c⟩
    · unfold nno at c; omega
    · exact ⟨⟨rfl, by omega, by omega⟩, fun _ => by rw [hfo, shB_uniq hn c]⟩
  · rcases hm with ⟨-, rfl, rfl⟩ | ⟨c1, c2, -⟩
    · exact ⟨⟨rfl, by omega, by omega⟩, fun q => by omega⟩
    · omega
theorem tc_reaches {zb s1 : Bool} {s2 s3 : Nat → Nat → Bool} {s4 s5 : Nat → Int} {s6 : Nat → Int64} (hC : gC j B n ac rk ch H K cs mn Nb Ls) (hp : pw_reaches ac rk n ch B H K f gf fo u v s1 s2 s3 s4 s5 s6 k) (hm : ((nno n u ∨ nno n v) ∧ th = 1 ∧ zb = false) ∨ ((0 ≤ u ∧ u < n) ∧ (0 ≤ v ∧ v < n) ∧ th = 0 ∧ mK B n.toNat Hm2 Nbm2 Lsm2 mnm2 Dm2 Cm2 ∧ zb = Hm2 u.toNat v.toNat)) :
    (th = k ∧ 0 ≤ k ∧ k ≤ 2) ∧ (k = 0 → s6 0 = (if zb = true then 1 else 0)) ∧ gC (j + 1) B n ac s1 ch s2 s3 cs mn Nb Ls := by
  rcases hp with ⟨H', K', f', g', fo', ⟨hu, hv⟩, hn, hfo, rfl, rfl, rfl, rfl, rfl, rfl, rfl⟩ | ⟨hb, rfl, rfl, rfl, rfl, rfl, rfl, rfl⟩
  · rcases hm with ⟨c, -⟩ | ⟨-, -, rfl, c, rfl⟩
    · unfold nno at c; omega
    · exact ⟨⟨rfl, by omega, by omega⟩, fun _ => by rw [hfo, tg_reach hn c _ _ (by omega) (by omega)], gC_set hC hn⟩
  · rcases hm with ⟨-, rfl, rfl⟩ | ⟨c1, c2, -⟩
    · exact ⟨⟨rfl, by omega, by omega⟩, fun q => by omega, gC_next hC⟩
    · omega
theorem tc_counted {s1 : Bool} {s2 s3 : Nat → Nat → Bool} {s4 s5 : Nat → Int} {s6 : Nat → Int64} (hC : gC j B n ac rk ch H K cs mn Nb Ls) (hp : pw_counted ac rk n ch B H K f gf fo u v s1 s2 s3 s4 s5 s6 k) (hm : (nno n u ∧ th = 1 ∧ z = 0) ∨ ((0 ≤ u ∧ u < n) ∧ (v < 0 ∨ 1 < v) ∧ th = 2 ∧ z = 0) ∨ ((0 ≤ u ∧ u < n) ∧ (0 ≤ v ∧ v ≤ 1) ∧ th = 0 ∧ mK B n.toNat Hm2 Nbm2 Lsm2 mnm2 Dm2 Cm2 ∧ z = (cN (mcq Hm2 u v) n.toNat : Int))) :
    (th = k ∧ 0 ≤ k ∧ k ≤ 2) ∧ (k = 0 → s6 0 = (iI z).toInt64) ∧ gC (j + 1) B n ac s1 ch s2 s3 cs mn Nb Ls := by
  have hn0 := hC.1
  rcases hp with ⟨H', K', f', g', z', fo', ⟨hu, hv⟩, hn, hz, hfo, rfl, rfl, rfl, rfl, rfl, rfl, rfl⟩ | ⟨hb, rfl, rfl, rfl, rfl, rfl, rfl, rfl⟩ | ⟨⟨hu, hv⟩, rfl, rfl, rfl, rfl, rfl, rfl, rfl⟩
  · rcases hm with ⟨c, -⟩ | ⟨-, c, -⟩ | ⟨-, -, rfl, c, rfl⟩
    · unfold nno at c; omega
    · omega
    · exact ⟨⟨rfl, by omega, by omega⟩, fun _ => by rw [hfo, hz, tg_counted (Nb := Nbm2) (Ls := Lsm2) (by omega) hn c (by omega)], gC_set hC hn⟩
  · rcases hm with ⟨-, rfl, rfl⟩ | ⟨c, -⟩ | ⟨c, -⟩
    · exact ⟨⟨rfl, by omega, by omega⟩, fun q => by omega, gC_next hC⟩
    · omega
    · omega
  · rcases hm with ⟨c, -⟩ | ⟨-, -, rfl, rfl⟩ | ⟨-, c, -⟩
    · unfold nno at c; omega
    · exact ⟨⟨rfl, by omega, by omega⟩, fun q => by omega, gC_next hC⟩
    · omega
theorem tc_part {s1 s2 : Int} {s3 s4 s5 s6 s10 s11 : Nat → Int} {s7 : Bool} {s8 s9 : Nat → Nat → Bool} {s12 : Nat → Int64} (hC : gC j B n ac rk ch H K cs mn Nb Ls) (hp : pw_part cs mn W g Nb Ls ac rk n ch B H K f gf fo u s1 s2 s3 s4 s5 s6 s7 s8 s9 s10 s11 s12 k) (hm : (nno n u ∧ th = 1 ∧ z = 0) ∨ ((0 ≤ u ∧ u < n) ∧ th = 0 ∧ mK B n.toNat Hm2 Nbm2 Lsm2 mnm2 Dm2 Cm2 ∧ z = Nbm2 u.toNat)) :
    (th = k ∧ 0 ≤ k ∧ k ≤ 2) ∧ (k = 0 → s12 0 = (iI z).toInt64) ∧ gC (j + 1) B n ac s7 ch s8 s9 s1 s2 s5 s6 := by
  rcases hp with ⟨W', g', Nb', Ls', mn', H', K', f', gf', fo', hu, hc, hN, hfo, rfl, rfl, rfl, rfl, rfl, rfl, rfl, rfl, rfl, rfl, rfl, rfl, rfl⟩ | ⟨hb, rfl, rfl, rfl, rfl, rfl, rfl, rfl, rfl, rfl, rfl, rfl, rfl, rfl⟩
  · rcases hm with ⟨c, -⟩ | ⟨-, rfl, c, rfl⟩
    · unfold nno at c; omega
    · exact ⟨⟨rfl, by omega, by omega⟩, fun _ => by rw [hfo, (mK_tie hC.2.1 hc hN c).2.1 _ (by omega)], gC_ren hC hc hN⟩
  · rcases hm with ⟨-, rfl, rfl⟩ | ⟨c1, -⟩
    · exact ⟨⟨rfl, by omega, by omega⟩, fun q => by omega, gC_next hC⟩
    · omega
theorem tc_about {s1 s2 : Int} {s3 s4 s5 s6 s10 s11 s13 C : Nat → Int} {s7 : Bool} {s8 s9 s12 Z : Nat → Nat → Bool} {s14 : Nat → Int64} (hC : gC j B n ac rk ch H K cs mn Nb Ls) (hp : pw_about cs mn W g Nb Ls ac rk n ch B H K f gf Z C fo u v s1 s2 s3 s4 s5 s6 s7 s8 s9 s10 s11 s12 s13 s14 k)
    (hm : mK B n.toNat Hm2 Nbm2 Lsm2 mnm2 Dm2 Cm2 ∧ (((u < 0 ∨ mnm2 ≤ u) ∧ th = 1 ∧ z = 0) ∨ ((0 ≤ u ∧ u < mnm2) ∧ (v < 0 ∨ 6 < v) ∧ th = 2 ∧ z = 0) ∨ ((0 ≤ u ∧ u < mnm2) ∧ (0 ≤ v ∧ v ≤ 6) ∧ th = 0 ∧ z = mabo B n.toNat Hm2 Nbm2 Lsm2 mnm2 Dm2 Cm2 u v))) :
    (th = k ∧ 0 ≤ k ∧ k ≤ 2) ∧ (k = 0 → s14 0 = (iI z).toInt64) ∧ gC (j + 1) B n ac s7 ch s8 s9 s1 s2 s5 s6 := by
  have hn0 := hC.1
  obtain ⟨hm0, hm⟩ := hm
  rcases hp with ⟨W', g', Nb', Ls', mn', H', K', f', gf', Z', C', z', fo', hv, hc, hN, hu, ha, hfo, rfl, rfl, rfl, rfl, rfl, rfl, rfl, rfl, rfl, rfl, rfl, rfl, rfl, rfl, rfl⟩ | ⟨W', g', Nb', Ls', mn', H', K', f', gf', hc, hN, hu, rfl, rfl, rfl, rfl, rfl, rfl, rfl, rfl, rfl, rfl, rfl, rfl, rfl, rfl, rfl⟩ | ⟨W', g', Nb', Ls', mn', H', K', f', gf', hv, hc, hN, hu, rfl, rfl, rfl, rfl, rfl, rfl, rfl, rfl, rfl, rfl, rfl, rfl, rfl, rfl, rfl⟩
  · have e1 := (mK_tie hC.2.1 hc hN hm0).1
    rcases hm with ⟨c, -⟩ | ⟨-, c, -⟩ | ⟨-, -, rfl, rfl⟩
    · omega
    · omega
    · exact ⟨⟨rfl, by omega, by omega⟩, fun _ => by rw [hfo, tg_about (by omega) hC.2.1 hc hN hm0 hu ha], gC_ren hC hc hN⟩
  · have e1 := (mK_tie hC.2.1 hc hN hm0).1
    rcases hm with ⟨-, rfl, rfl⟩ | ⟨c, -⟩ | ⟨c, -⟩
    · exact ⟨⟨rfl, by omega, by omega⟩, fun q => by omega, gC_ren hC hc hN⟩
    · omega
    · omega
  · have e1 := (mK_tie hC.2.1 hc hN hm0).1
    rcases hm with ⟨c, -⟩ | ⟨-, -, rfl, rfl⟩ | ⟨-, c, -⟩
    · omega
    · exact ⟨⟨rfl, by omega, by omega⟩, fun q => by omega, gC_ren hC hc hN⟩
    · omega
end TC
section TR
variable {nv mm tk fl sr lr u v k th z nv2 mm2 flm flm2 : Int} {rn ck ck2 gd gd2 : Bool} {f1 f2 f m1 m2 g1 g2 V V2 : Nat → Int} {T H K S Ld S2 Ld2 Y : Nat → Nat → Bool} {fo : Nat → Int64}
theorem tc_variables {s1 s2 s4 s5 : Int} {s3 : Bool} {s6 s7 s8 : Nat → Nat → Bool} (hR : rC nv mm tk fl rn sr lr f1 f2 T H K) (hN : rM nv mm f1 f2 ck m1 m2 S Ld V gd flm) (hp : pw_variables tk fl rn sr lr nv mm T H K f u s1 s2 s3 s4 s5 s6 s7 s8 k) (hm : mvar nv mm ck u th nv2 mm2 ck2) :
    (th = k ∧ 0 ≤ k ∧ k ≤ 2) ∧ s4 = nv2 ∧ s5 = mm2 ∧ rC s4 s5 s1 s2 s3 sr lr f1 f2 s6 s7 s8 ∧ rM s4 s5 f1 f2 ck2 m1 m2 S Ld V gd flm := by
  rcases hp with ⟨hu, rfl, rfl, rfl, rfl, rfl, rfl, rfl, rfl, rfl⟩ | ⟨hu, rfl, rfl, rfl, rfl, rfl, rfl, rfl, rfl, rfl⟩
  · rcases hm with ⟨c, -⟩ | ⟨-, rfl, rfl, rfl, rfl⟩
    · omega
    · exact ⟨⟨rfl, by omega, by omega⟩, rfl, rfl, rC_begin hu, rM_begin (mm := 0)⟩
  · rcases hm with ⟨-, rfl, rfl, rfl, rfl⟩ | ⟨c, -⟩
    · exact ⟨⟨rfl, by omega, by omega⟩, rfl, rfl, hR, hN⟩
    · omega
theorem tc_clause {s1 : Bool} {s2 : Int} {s3 s4 : Nat → Int} {s5 : Nat → Int64} (hR : rC nv mm tk fl rn sr lr f1 f2 T H K) (hN : rM nv mm f1 f2 ck m1 m2 S Ld V gd flm) (hp : pw_clause tk fl rn sr lr nv mm f1 f2 fo u v s1 s2 s3 s4 s5 k) (hm : mcla nv mm ck m1 m2 u v th mm2 ck2 g1 g2 z) :
    (th = k ∧ 0 ≤ k ∧ k ≤ 2) ∧ (k = 0 → s5 0 = (iI z).toInt64) ∧ s2 = mm2 ∧ rC nv s2 tk fl s1 sr lr s3 s4 T H K ∧ rM nv s2 s3 s4 ck2 g1 g2 S Ld V gd flm := by
  rcases hp with ⟨g1', g2', mm', rn', z', fo', ⟨hu, hv⟩, ha, hfo, rfl, rfl, rfl, rfl, rfl, rfl⟩ | ⟨hb, rfl, rfl, rfl, rfl, rfl, rfl⟩
  · obtain ⟨e1, e2, e3, e4⟩ := rM_add hN hR.2.1 hu hv ha hm
    exact ⟨⟨e1, by omega, by omega⟩, fun _ => by rw [hfo, e2], e3, rC_add hR hu hv ha, e4⟩
  · rcases hm with ⟨-, rfl, rfl, rfl, rfl, rfl, rfl⟩ | ⟨⟨c1, c2⟩, -⟩ | ⟨⟨c1, c2⟩, -⟩
    · exact ⟨⟨rfl, by omega, by omega⟩, fun q => by omega, rfl, hR, hN⟩
    · unfold nli at c1 c2; omega
    · unfold nli at c1 c2; omega
theorem tc_drop {s1 s2 s4 : Int} {s3 : Bool} {s5 s6 : Nat → Int} {s7 s8 s9 : Nat → Nat → Bool} (hR : rC nv mm tk fl rn sr lr f1 f2 T H K) (hN : rM nv mm f1 f2 ck m1 m2 S Ld V gd flm) (hp : pw_drop tk fl rn sr lr nv mm f1 f2 T H K f u s1 s2 s3 s4 s5 s6 s7 s8 s9 k) (hm : mdro mm ck m1 m2 u th mm2 ck2 g1 g2) :
    (th = k ∧ 0 ≤ k ∧ k ≤ 2) ∧ s4 = mm2 ∧ rC nv s4 s1 s2 s3 sr lr s5 s6 s7 s8 s9 ∧ rM nv s4 s5 s6 ck2 g1 g2 S Ld V gd flm := by
  rcases hp with ⟨hu, rfl, rfl, rfl, rfl, rfl, rfl, rfl, rfl, rfl, rfl⟩ | ⟨hu, rfl, rfl, rfl, rfl, rfl, rfl, rfl, rfl, rfl, rfl⟩
  · obtain ⟨e1, e2, e3⟩ := rM_drop hN hu hm
    exact ⟨⟨e1, by omega, by omega⟩, e2.symm, rC_drop hR hu, e3⟩
  · rcases hm with ⟨-, rfl, rfl, rfl, rfl, rfl⟩ | ⟨c, -⟩
    · exact ⟨⟨rfl, by omega, by omega⟩, rfl, hR, hN⟩
    · omega
theorem tc_value {s1 s2 : Int} {s3 s4 s5 s7 : Nat → Nat → Bool} {s6 : Nat → Int} {s8 : Nat → Int64} (hR : rC nv mm tk fl rn sr lr f1 f2 T H K) (hN : rM nv mm f1 f2 ck m1 m2 S Ld V gd flm) (hp : pw_value tk fl rn sr lr nv mm f1 f2 T H K f Y fo u s1 s2 s3 s4 s5 s6 s7 s8 k) (h2 : mC nv mm m1 m2 S2 Ld2 V2 gd2 flm2)
    (hm : ((u < 1 ∨ nv < u) ∧ th = 1 ∧ z = 0) ∨ ((1 ≤ u ∧ u ≤ nv) ∧ gd2 = false ∧ th = 2 ∧ z = 0) ∨ ((1 ≤ u ∧ u ≤ nv) ∧ gd2 = true ∧ th = 0 ∧ z = V2 (u - 1).toNat)) :
    (th = k ∧ 0 ≤ k ∧ k ≤ 2) ∧ (k = 0 → s8 0 = (iI z).toInt64) ∧ rC nv mm s1 s2 rn sr lr f1 f2 s3 s4 s5 ∧ rM nv mm f1 f2 true m1 m2 S2 Ld2 V2 gd2 flm2 := by
  have hN2 : rM nv mm f1 f2 true m1 m2 S2 Ld2 V2 gd2 flm2 := ⟨hN.1, hN.2.1, fun _ => h2⟩
  rcases hp with ⟨fl', T', H', K', f', Y', fo', hu, hr, hf, hfo, rfl, rfl, rfl, rfl, rfl, rfl, rfl, rfl, rfl⟩ | ⟨fl', T', H', K', f', hu, hr, hf, rfl, rfl, rfl, rfl, rfl, rfl, rfl, rfl, rfl⟩ | ⟨hb, rfl, rfl, rfl, rfl, rfl, rfl, rfl, rfl, rfl⟩
  · have hg := (tr_all hr hN.1 h2).2.1
    rcases hm with ⟨c, -⟩ | ⟨-, c, -⟩ | ⟨-, -, rfl, rfl⟩
    · omega
    · rw [hg.mp hf] at c; cases c
    · exact ⟨⟨rfl, by omega, by omega⟩, fun _ => by rw [hfo, tr_value hr hN.1 h2 hf hu], rC_fail hR hr, hN2⟩
  · have hg := (tr_all hr hN.1 h2).2.1
    rcases hm with ⟨c, -⟩ | ⟨-, -, rfl, rfl⟩ | ⟨-, c, -⟩
    · omega
    · exact ⟨⟨rfl, by omega, by omega⟩, fun q => by omega, rC_fail hR hr, hN2⟩
    · exact absurd (hg.mpr c) hf
  · rcases hm with ⟨-, rfl, rfl⟩ | ⟨c, -⟩ | ⟨c, -⟩
    · exact ⟨⟨rfl, by omega, by omega⟩, fun q => by omega, hR, hN2⟩
    · omega
    · omega
theorem tc_fixed {s1 s2 : Int} {s3 s4 s5 : Nat → Nat → Bool} {s6 : Nat → Int} {s7 : Nat → Int64} (hR : rC nv mm tk fl rn sr lr f1 f2 T H K) (hN : rM nv mm f1 f2 ck m1 m2 S Ld V gd flm) (hp : pw_fixed tk fl rn sr lr nv mm f1 f2 T H K f fo u s1 s2 s3 s4 s5 s6 s7 k) (h2 : mC nv mm m1 m2 S2 Ld2 V2 gd2 flm2)
    (hm : ((u < 1 ∨ nv < u) ∧ th = 1 ∧ z = 0) ∨ ((1 ≤ u ∧ u ≤ nv) ∧ gd2 = false ∧ th = 2 ∧ z = 0) ∨ ((1 ≤ u ∧ u ≤ nv) ∧ gd2 = true ∧ th = 0 ∧ z = mfx Ld2 u)) :
    (th = k ∧ 0 ≤ k ∧ k ≤ 2) ∧ (k = 0 → s7 0 = (iI z).toInt64) ∧ rC nv mm s1 s2 rn sr lr f1 f2 s3 s4 s5 ∧ rM nv mm f1 f2 true m1 m2 S2 Ld2 V2 gd2 flm2 := by
  have hN2 : rM nv mm f1 f2 true m1 m2 S2 Ld2 V2 gd2 flm2 := ⟨hN.1, hN.2.1, fun _ => h2⟩
  rcases hp with ⟨fl', T', H', K', f', z', fo', hu, hr, hf, hz, hfo, rfl, rfl, rfl, rfl, rfl, rfl, rfl, rfl⟩ | ⟨fl', T', H', K', f', hu, hr, hf, rfl, rfl, rfl, rfl, rfl, rfl, rfl, rfl⟩ | ⟨hb, rfl, rfl, rfl, rfl, rfl, rfl, rfl, rfl⟩
  · have hg := (tr_all hr hN.1 h2).2.1
    rcases hm with ⟨c, -⟩ | ⟨-, c, -⟩ | ⟨-, -, rfl, rfl⟩
    · omega
    · rw [hg.mp hf] at c; cases c
    · exact ⟨⟨rfl, by omega, by omega⟩, fun _ => by rw [hfo, tr_fixed hr hN.1 h2 hf hu hz], rC_fail hR hr, hN2⟩
  · have hg := (tr_all hr hN.1 h2).2.1
    rcases hm with ⟨c, -⟩ | ⟨-, -, rfl, rfl⟩ | ⟨-, c, -⟩
    · omega
    · exact ⟨⟨rfl, by omega, by omega⟩, fun q => by omega, rC_fail hR hr, hN2⟩
    · exact absurd (hg.mpr c) hf
  · rcases hm with ⟨-, rfl, rfl⟩ | ⟨c, -⟩ | ⟨c, -⟩
    · exact ⟨⟨rfl, by omega, by omega⟩, fun q => by omega, hR, hN2⟩
    · omega
    · omega
theorem tc_implies {zb : Bool} {s1 s2 : Int} {s3 s4 s5 : Nat → Nat → Bool} {s6 : Nat → Int} {s7 : Nat → Int64} (hR : rC nv mm tk fl rn sr lr f1 f2 T H K) (hN : rM nv mm f1 f2 ck m1 m2 S Ld V gd flm) (hp : pw_implies tk fl rn sr lr nv mm f1 f2 T H K f fo u v s1 s2 s3 s4 s5 s6 s7 k) (h2 : mC nv mm m1 m2 S2 Ld2 V2 gd2 flm2)
    (hm : ((nli nv u ∨ nli nv v) ∧ th = 1 ∧ zb = false) ∨ ((¬ nli nv u ∧ ¬ nli nv v) ∧ gd2 = false ∧ th = 2 ∧ zb = false) ∨ ((¬ nli nv u ∧ ¬ nli nv v) ∧ gd2 = true ∧ th = 0 ∧ zb = mfo Ld2 (ptO u).toNat (ptO v).toNat)) :
    (th = k ∧ 0 ≤ k ∧ k ≤ 2) ∧ (k = 0 → s7 0 = (if zb = true then 1 else 0)) ∧ rC nv mm s1 s2 rn sr lr f1 f2 s3 s4 s5 ∧ rM nv mm f1 f2 true m1 m2 S2 Ld2 V2 gd2 flm2 := by
  have hN2 : rM nv mm f1 f2 true m1 m2 S2 Ld2 V2 gd2 flm2 := ⟨hN.1, hN.2.1, fun _ => h2⟩
  rcases hp with ⟨fl', T', H', K', f', fo', ⟨hu, hv⟩, hr, hf, hfo, rfl, rfl, rfl, rfl, rfl, rfl, rfl, rfl⟩ | ⟨fl', T', H', K', f', ⟨hu, hv⟩, hr, hf, rfl, rfl, rfl, rfl, rfl, rfl, rfl, rfl⟩ | ⟨hb, rfl, rfl, rfl, rfl, rfl, rfl, rfl, rfl⟩
  · have hg := (tr_all hr hN.1 h2).2.1
    rcases hm with ⟨c, -⟩ | ⟨-, c, -⟩ | ⟨-, -, rfl, rfl⟩
    · unfold nli at c; omega
    · rw [hg.mp hf] at c; cases c
    · exact ⟨⟨rfl, by omega, by omega⟩, fun _ => by rw [hfo, tr_implies hr hN.1 h2 hf hu hv], rC_fail hR hr, hN2⟩
  · have hg := (tr_all hr hN.1 h2).2.1
    rcases hm with ⟨c, -⟩ | ⟨-, -, rfl, rfl⟩ | ⟨-, c, -⟩
    · unfold nli at c; omega
    · exact ⟨⟨rfl, by omega, by omega⟩, fun q => by omega, rC_fail hR hr, hN2⟩
    · exact absurd (hg.mpr c) hf
  · rcases hm with ⟨-, rfl, rfl⟩ | ⟨⟨c1, c2⟩, -⟩ | ⟨⟨c1, c2⟩, -⟩
    · exact ⟨⟨rfl, by omega, by omega⟩, fun q => by omega, hR, hN2⟩
    · unfold nli at c1 c2; omega
    · unfold nli at c1 c2; omega
theorem tc_classes {s1 s2 : Int} {s3 s4 s5 : Nat → Nat → Bool} {s6 : Nat → Int} {s7 : Nat → Int64} (hR : rC nv mm tk fl rn sr lr f1 f2 T H K) (hN : rM nv mm f1 f2 ck m1 m2 S Ld V gd flm) (hp : pw_classes tk fl rn sr lr nv mm f1 f2 T H K f fo s1 s2 s3 s4 s5 s6 s7 k) (h2 : mC nv mm m1 m2 S2 Ld2 V2 gd2 flm2)
    (hm : (gd2 = false ∧ th = 1 ∧ z = 0) ∨ (gd2 = true ∧ th = 0 ∧ z = (cN (fun a => mfr Ld2 a a) (2 * nv).toNat : Int))) :
    (th = k ∧ 0 ≤ k ∧ k ≤ 2) ∧ (k = 0 → s7 0 = (iI z).toInt64) ∧ rC nv mm s1 s2 rn sr lr f1 f2 s3 s4 s5 ∧ rM nv mm f1 f2 true m1 m2 S2 Ld2 V2 gd2 flm2 := by
  have hN2 : rM nv mm f1 f2 true m1 m2 S2 Ld2 V2 gd2 flm2 := ⟨hN.1, hN.2.1, fun _ => h2⟩
  rcases hp with ⟨fl', T', H', K', f', fo', hr, hf, hfo, rfl, rfl, rfl, rfl, rfl, rfl, rfl, rfl⟩ | ⟨fl', T', H', K', f', hr, hf, rfl, rfl, rfl, rfl, rfl, rfl, rfl, rfl⟩
  · have hg := (tr_all hr hN.1 h2).2.1
    rcases hm with ⟨c, -⟩ | ⟨-, rfl, rfl⟩
    · rw [hg.mp hf] at c; cases c
    · exact ⟨⟨rfl, by omega, by omega⟩, fun _ => by rw [hfo, tr_classes hr hN.1 h2 hf hR.1.2], rC_fail hR hr, hN2⟩
  · have hg := (tr_all hr hN.1 h2).2.1
    rcases hm with ⟨-, rfl, rfl⟩ | ⟨c, -⟩
    · exact ⟨⟨rfl, by omega, by omega⟩, fun q => by omega, rC_fail hR hr, hN2⟩
    · exact absurd (hg.mpr c) hf
theorem tc_fails {fl' : Int} {T' H' K' : Nat → Nat → Bool} (hR : rC nv mm tk fl rn sr lr f1 f2 T H K) (hN : rM nv mm f1 f2 ck m1 m2 S Ld V gd flm) (hr : rowI nv.toNat f1 f2 mm mm fl' T' H' K') (h2 : mC nv mm m1 m2 S2 Ld2 V2 gd2 flm2) :
    (fl' = flm2 ∧ decide (fl' = -1) = gd2 ∧ -1 ≤ fl' ∧ fl' ≤ 400) ∧ rC nv mm mm fl' rn sr lr f1 f2 T' H' K' ∧ rM nv mm f1 f2 true m1 m2 S2 Ld2 V2 gd2 flm2 := by
  have hN2 : rM nv mm f1 f2 true m1 m2 S2 Ld2 V2 gd2 flm2 := ⟨hN.1, hN.2.1, fun _ => h2⟩
  obtain ⟨e1, e2, e3, -⟩ := tr_all hr hN.1 h2
  have hrg := fai_rg hr.2.2.2.2.1
  have h0 := hR.2.1
  refine ⟨⟨e1, ?_, e3, by omega⟩, rC_fail hR hr, hN2⟩
  cases gd2
  · exact decide_eq_false (fun q => by have := e2.mp q; cases this)
  · exact decide_eq_true (e2.mpr rfl)
theorem tc_round {tk' fl' sr' lr' sr2 lr2 : Int} {T' H' K' : Nat → Nat → Bool} (hR : rC nv mm tk fl rn sr lr f1 f2 T H K) (hN : rM nv mm f1 f2 ck m1 m2 S Ld V gd flm) (hr : rowI nv.toNat f1 f2 mm tk' fl' T' H' K') (hd : rdsR (stB f1 f2 mm.toNat) nv.toNat sr' lr') (h2 : mC nv mm m1 m2 S2 Ld2 V2 gd2 flm2) (hd2 : rdsR S2 nv.toNat sr2 lr2) :
    (sr' = sr2 ∧ lr' = lr2 ∧ (-1 ≤ sr' ∧ sr' ≤ 320) ∧ -1 ≤ lr' ∧ lr' ≤ 80) ∧ rC nv mm tk' fl' true sr' lr' f1 f2 T' H' K' ∧ rM nv mm f1 f2 true m1 m2 S2 Ld2 V2 gd2 flm2 := by
  have hN2 : rM nv mm f1 f2 true m1 m2 S2 Ld2 V2 gd2 flm2 := ⟨hN.1, hN.2.1, fun _ => h2⟩
  have eS : S2 = stB f1 f2 mm.toNat := by
    rw [h2.1]
    exact (stB_congr _ (fun i hi => hN.1 i (by omega))).symm
  rw [eS] at hd2
  obtain ⟨e1, e2⟩ := rdsR_uniq hd hd2
  have h0 := hR.1
  refine ⟨⟨e1, e2, ?_⟩, rC_round hR hr hd, hN2⟩
  rcases hd with ⟨a, b, -⟩ | ⟨w, w1, w2, w3, w4, w5, -⟩ <;> omega
end TR
