-- the rows of ExactDesk$Wide (laid by wip/whole/gen_wide.py)
theorem dv_nlt {z : Int} (hz : zR z) : z.toNat < 2 ^ 128 := by
  obtain ⟨z1, z2⟩ := hz
  have e5 : (2 : Nat) ^ 128 = 340282366920938463463374607431768211456 := by decide
  omega
theorem set_same {ws : va_W} {k : Nat} {x : Nat × va_E} (h : ws[k]? = some x) : ws.set k x = ws := by
  obtain ⟨h1, h2⟩ := List.getElem?_eq_some_iff.mp h
  rw [← h2]
  exact List.set_getElem_self h1
theorem dv_sub {x d : Int64} (h : uN d ≤ uN x) : uN (x - d) = uN x - uN d := by
  have a := un_sub x d
  have b := un_c x
  have c := un_c d
  have e := uN_lt x
  omega
theorem dv_fin {ws ws1 : va_W} {k h0 i : Nat} {hi lo r d : Int64} {z : Int} {x5 : Int32} (hw : ws1 = ws.set k (h0, .inr (ciW, [.long hi, .long lo]))) (h0z : 0 ≤ z) (hz : zR z) (hd0 : 0 < uN d) (hI : dvI (uN d) z.toNat i (uN hi * 18446744073709551616 + uN lo) (uN r)) (c : (128 : Int32) ≤ x5) (h1 : i ≤ 128) (ex : x5 = nI i) : ws1 = ws.set k (h0, wdI (z / (uN d : Int))) ∧ (uN r : Int) = z % (uN d : Int) := by
  have hi8 : i = 128 := by
    rw [ex] at c
    have c2 : nI 128 ≤ nI i := c
    have := (nI_leI (by omega) (by omega)).mp c2
    omega
  subst hi8
  obtain ⟨q1, q2⟩ := dv_end hI
  have ez : ((z.toNat : Nat) : Int) = z := by omega
  have e1 : ((z.toNat / uN d : Nat) : Int) = z / (uN d : Int) := by rw [Int.natCast_ediv, ez]
  have e2 : ((z.toNat % uN d : Nat) : Int) = z % (uN d : Int) := by rw [Int.natCast_emod, ez]
  obtain ⟨z1, z2⟩ := hz
  have hle : z.toNat / uN d ≤ z.toNat := Nat.div_le_self _ _
  refine ⟨?_, ?_⟩
  · rw [hw, ← e1]
    exact wd_eq (dv_out q1 (by omega))
  · rw [q2]; exact e2
set_option maxHeartbeats 4000000 in
set_option maxRecDepth 100000 in
theorem cW_uless (l : Launch) (D : va_G) {tys : xT} {ws : va_W} {sz : Nat} (a b : Int64) : xM l yX0_unsignedLess wsX0_unsignedLess ({ frames := 0, cells := 0, slots := 0, locals := 0 }) D tys ws sz [.long a, .long b] (xQi D tys (fun r w => r = (if uN a < uN b then 1 else 0) ∧ ws = w)) 0 0 := by
  refine xb_m (cc := cX0_unsignedLess) (maxL := 4) (ret := (some .boolean)) (by decide) rfl (Nat.le_of_ble_eq_true rfl) ?_
  intro p e s m below meth c A ls hx hb hr hml hown hts hlocks hnm hA hP hK hD hS hl
  have hl : lv_has ls 4 [(0, .long a), (2, .long b)] := hl
  have hown : s.vm.findClass RX0 = some m.cls := hown
  refine lv_lload_n hx hb dX0_unsignedLess_0 rfl (lv_at hl 0 rfl) ?_
  refine lv_ldc2 (v := (-9223372036854775808)) hx hb hown (hts (.constantLong RX0 35 (-9223372036854775808)) (by decide +kernel)) dX0_unsignedLess_1 ?_
  refine lv_lxor hx hb dX0_unsignedLess_4 ?_
  refine lv_lload_n hx hb dX0_unsignedLess_5 rfl (lv_at hl 1 rfl) ?_
  refine lv_ldc2 (v := (-9223372036854775808)) hx hb hown (hts (.constantLong RX0 35 (-9223372036854775808)) (by decide +kernel)) dX0_unsignedLess_6 ?_
  refine lv_lxor hx hb dX0_unsignedLess_9 ?_
  refine W.lcmp hx hb dX0_unsignedLess_10 ?_
  refine lv_if_ge (tgt := 18) hx hb dX0_unsignedLess_11 (by decide) (fun c11 => ?_) (fun c11 => ?_)
  · rw [lg_cmp_ge] at c11
    refine lv_iconst (v := 0) hx hb dX0_unsignedLess_18 (by decide) ?_
    exact xb_zr hx hb hr hlocks hP hK hD hS dX0_unsignedLess_19 rfl (⟨by rw [uN_le] at c11; rw [if_neg (by omega)], rfl⟩)
  · rw [lg_cmp_ge] at c11
    refine lv_iconst (v := 1) hx hb dX0_unsignedLess_14 (by decide) ?_
    refine lv_goto (tgt := 19) hx hb dX0_unsignedLess_15 (by decide) ?_
    exact xb_zr hx hb hr hlocks hP hK hD hS dX0_unsignedLess_19 rfl (⟨by rw [uN_le] at c11; rw [if_pos (by omega)], rfl⟩)
set_option maxHeartbeats 4000000 in
set_option maxRecDepth 100000 in
theorem cW_becomeL (l : Launch) (D : va_G) {tys : xT} {ws : va_W} {sz : Nat} {k h0 : Nat} {fh fl : Int64} (hk : ws[k]? = some (h0, .inr (ciW, [.long fh, .long fl]))) (v : Int64) : xM l yX0_become wsX0_become ({ frames := 0, cells := 0, slots := 0, locals := 0 }) D tys ws sz [.ref h0, .long v] (xQv D tys (fun w => w = ws.set k (h0, wdI v.toInt))) 0 0 := by
  refine xb_m (cc := cX0_become) (maxL := 3) (ret := none) (by decide) rfl (Nat.le_of_ble_eq_true rfl) ?_
  intro p e s m below meth c A ls hx hb hr hml hown hts hlocks hnm hA hP hK hD hS hl
  have hl : lv_has ls 3 [(0, .ref h0), (1, .long v)] := hl
  have hown : s.vm.findClass RX0 = some m.cls := hown
  refine lv_aload_n hx hb dX0_become_0 rfl (lv_at hl 0 rfl) ?_
  refine lv_lload_n hx hb dX0_become_1 rfl (lv_at hl 1 rfl) ?_
  refine lv_bipush (v := 63) hx hb dX0_become_2 (by decide) ?_
  refine lv_lshr hx hb dX0_become_4 rfl ?_
  refine va_put (D := D) (ci := ciW) (v := .long (v >>> ((63 : Int32).toInt64 &&& 63))) (ty := .long) (C := RX0) (T := TX0) (N := 2) hx hb hts (by decide +kernel) tyX0 tyX0_ok nmX0 hown hK hP hD hS k hk rfl 0 (by decide) (hts (.fieldLink RX0 9 "ExactDesk$Wide" "high" "J") (by decide +kernel)) (fun _ h9 => h9) rfl (by decide +kernel) rfl rfl (Nat.le_of_ble_eq_true rfl) dX0_become_5 (fun H locs hP hD hS => ?_)
  obtain ⟨ws1, hws1⟩ : ∃ q_, q_ = ws.set k (h0, .inr (ciW, [.long (v >>> ((63 : Int32).toInt64 &&& 63)), .long fl])) := ⟨_, rfl⟩
  have hP : va_P D vwCl ws1 H := by rw [hws1]; exact hP
  have hD : va_D A ws1 := by rw [hws1]; exact hD
  have hk : ws1[k]? = some (h0, .inr (ciW, [.long (v >>> ((63 : Int32).toInt64 &&& 63)), .long fl])) := by rw [hws1]; exact sgS hk
  refine lv_aload_n hx hb dX0_become_8 rfl (lv_at hl 0 rfl) ?_
  refine lv_lload_n hx hb dX0_become_9 rfl (lv_at hl 1 rfl) ?_
  refine va_put (D := D) (ci := ciW) (v := .long v) (ty := .long) (C := RX0) (T := TX0) (N := 2) hx hb hts (by decide +kernel) tyX0 tyX0_ok nmX0 hown hK hP hD hS k hk rfl 1 (by decide) (hts (.fieldLink RX0 13 "ExactDesk$Wide" "low" "J") (by decide +kernel)) (fun _ h9 => h9) rfl (by decide +kernel) rfl rfl (Nat.le_of_ble_eq_true rfl) dX0_become_10 (fun H locs hP hD hS => ?_)
  obtain ⟨ws2, hws2⟩ : ∃ q_, q_ = ws1.set k (h0, .inr (ciW, [.long (v >>> ((63 : Int32).toInt64 &&& 63)), .long v])) := ⟨_, rfl⟩
  have hP : va_P D vwCl ws2 H := by rw [hws2]; exact hP
  have hD : va_D A ws2 := by rw [hws2]; exact hD
  have hk : ws2[k]? = some (h0, .inr (ciW, [.long (v >>> ((63 : Int32).toInt64 &&& 63)), .long v])) := by rw [hws2]; exact sgS hk
  exact xb_vr hx hb hr hlocks hP hK hD hS dX0_become_13 (by rw [hws2, hws1, List.set_set]; exact wd_eq (w_long v))
set_option maxHeartbeats 4000000 in
set_option maxRecDepth 100000 in
theorem cW_becomeW (l : Launch) (D : va_G) {tys : xT} {ws : va_W} {sz : Nat} {k h0 : Nat} {z : Int} (hk : ws[k]? = some (h0, wdI z)) {k2 h1 : Nat} {y : Int} (hk2 : ws[k2]? = some (h1, wdI y)) (hne : k2 ≠ k) : xM l yX0_become_ wsX0_become_ ({ frames := 0, cells := 0, slots := 0, locals := 0 }) D tys ws sz [.ref h0, .ref h1] (xQv D tys (fun w => w = ws.set k (h0, wdI y))) 0 0 := by
  refine xb_m (cc := cX0_become_) (maxL := 2) (ret := none) (by decide) rfl (Nat.le_of_ble_eq_true rfl) ?_
  intro p e s m below meth c A ls hx hb hr hml hown hts hlocks hnm hA hP hK hD hS hl
  have hl : lv_has ls 2 [(0, .ref h0), (1, .ref h1)] := hl
  have hown : s.vm.findClass RX0 = some m.cls := hown
  refine lv_aload_n hx hb dX0_become__0 rfl (lv_at hl 0 rfl) ?_
  refine lv_aload_n hx hb dX0_become__1 rfl (lv_at hl 1 rfl) ?_
  refine va_get (D := D) (ci := ciW) (v := .long (zh y)) (C := RX0) (T := TX0) (N := 2) hx hb hts (by decide +kernel) hown hK hP k2 hk2 rfl 0 (by decide) (hts (.fieldLink RX0 9 "ExactDesk$Wide" "high" "J") (by decide +kernel)) (fun _ h9 => h9) rfl dX0_become__2 ?_
  refine va_put (D := D) (ci := ciW) (v := .long (zh y)) (ty := .long) (C := RX0) (T := TX0) (N := 2) hx hb hts (by decide +kernel) tyX0 tyX0_ok nmX0 hown hK hP hD hS k hk rfl 0 (by decide) (hts (.fieldLink RX0 9 "ExactDesk$Wide" "high" "J") (by decide +kernel)) (fun _ h9 => h9) rfl (by decide +kernel) rfl rfl (Nat.le_of_ble_eq_true rfl) dX0_become__5 (fun H locs hP hD hS => ?_)
  obtain ⟨ws1, hws1⟩ : ∃ q_, q_ = ws.set k (h0, .inr (ciW, [.long (zh y), .long (zl z)])) := ⟨_, rfl⟩
  have hP : va_P D vwCl ws1 H := by rw [hws1]; exact hP
  have hD : va_D A ws1 := by rw [hws1]; exact hD
  have hk : ws1[k]? = some (h0, .inr (ciW, [.long (zh y), .long (zl z)])) := by rw [hws1]; exact sgS hk
  have hk2 : ws1[k2]? = some (h1, .inr (ciW, [.long (zh y), .long (zl y)])) := by rw [hws1, sgN hne]; exact hk2
  refine lv_aload_n hx hb dX0_become__8 rfl (lv_at hl 0 rfl) ?_
  refine lv_aload_n hx hb dX0_become__9 rfl (lv_at hl 1 rfl) ?_
  refine va_get (D := D) (ci := ciW) (v := .long (zl y)) (C := RX0) (T := TX0) (N := 2) hx hb hts (by decide +kernel) hown hK hP k2 hk2 rfl 1 (by decide) (hts (.fieldLink RX0 13 "ExactDesk$Wide" "low" "J") (by decide +kernel)) (fun _ h9 => h9) rfl dX0_become__10 ?_
  refine va_put (D := D) (ci := ciW) (v := .long (zl y)) (ty := .long) (C := RX0) (T := TX0) (N := 2) hx hb hts (by decide +kernel) tyX0 tyX0_ok nmX0 hown hK hP hD hS k hk rfl 1 (by decide) (hts (.fieldLink RX0 13 "ExactDesk$Wide" "low" "J") (by decide +kernel)) (fun _ h9 => h9) rfl (by decide +kernel) rfl rfl (Nat.le_of_ble_eq_true rfl) dX0_become__13 (fun H locs hP hD hS => ?_)
  obtain ⟨ws2, hws2⟩ : ∃ q_, q_ = ws1.set k (h0, .inr (ciW, [.long (zh y), .long (zl y)])) := ⟨_, rfl⟩
  have hP : va_P D vwCl ws2 H := by rw [hws2]; exact hP
  have hD : va_D A ws2 := by rw [hws2]; exact hD
  have hk : ws2[k]? = some (h0, .inr (ciW, [.long (zh y), .long (zl y)])) := by rw [hws2]; exact sgS hk
  have hk2 : ws2[k2]? = some (h1, .inr (ciW, [.long (zh y), .long (zl y)])) := by rw [hws2, sgN hne]; exact hk2
  exact xb_vr hx hb hr hlocks hP hK hD hS dX0_become__16 (by rw [hws2, hws1, List.set_set])
set_option maxHeartbeats 4000000 in
set_option maxRecDepth 100000 in
theorem cW_prod (l : Launch) (D : va_G) {tys : xT} {ws : va_W} {sz : Nat} {k h0 : Nat} {fh fl : Int64} (hk : ws[k]? = some (h0, .inr (ciW, [.long fh, .long fl]))) (a b : Int64) : xM l yX0_becomeProduct wsX0_becomeProduct ({ frames := 0, cells := 0, slots := 0, locals := 0 }) D tys ws sz [.ref h0, .long a, .long b] (xQv D tys (fun w => w = ws.set k (h0, wdI (a.toInt * b.toInt)))) 0 0 := by
  refine xb_m (cc := cX0_becomeProduct) (maxL := 17) (ret := none) (by decide) rfl (Nat.le_of_ble_eq_true rfl) ?_
  intro p e s m below meth c A ls hx hb hr hml hown hts hlocks hnm hA hP hK hD hS hl
  have hl : lv_has ls 17 [(0, .ref h0), (1, .long a), (3, .long b)] := hl
  have hown : s.vm.findClass RX0 = some m.cls := hown
  refine lv_lload_n hx hb dX0_becomeProduct_0 rfl (lv_at hl 1 rfl) ?_
  refine lv_bipush (v := 32) hx hb dX0_becomeProduct_1 (by decide) ?_
  refine lv_lshr hx hb dX0_becomeProduct_3 rfl ?_
  refine lv_topl (fun x4 ex4 => ?_)
  refine lv_lstore (lv' := [(5, .long x4), (0, .ref h0), (1, .long a), (3, .long b)]) hx hb dX0_becomeProduct_4 hl (by decide) rfl (fun ls hl => ?_)
  refine lv_lload_n hx hb dX0_becomeProduct_6 rfl (lv_at hl 2 rfl) ?_
  refine lv_ldc2 (v := 4294967295) hx hb hown (hts (.constantLong RX0 16 (4294967295)) (by decide +kernel)) dX0_becomeProduct_7 ?_
  refine lv_land hx hb dX0_becomeProduct_10 ?_
  refine lv_topl (fun x11 ex11 => ?_)
  refine lv_lstore (lv' := [(7, .long x11), (5, .long x4), (0, .ref h0), (1, .long a), (3, .long b)]) hx hb dX0_becomeProduct_11 hl (by decide) rfl (fun ls hl => ?_)
  refine lv_lload_n hx hb dX0_becomeProduct_13 rfl (lv_at hl 4 rfl) ?_
  refine lv_bipush (v := 32) hx hb dX0_becomeProduct_14 (by decide) ?_
  refine lv_lshr hx hb dX0_becomeProduct_16 rfl ?_
  refine lv_topl (fun x17 ex17 => ?_)
  refine lv_lstore (lv' := [(9, .long x17), (7, .long x11), (5, .long x4), (0, .ref h0), (1, .long a), (3, .long b)]) hx hb dX0_becomeProduct_17 hl (by decide) rfl (fun ls hl => ?_)
  refine lv_lload_n hx hb dX0_becomeProduct_19 rfl (lv_at hl 5 rfl) ?_
  refine lv_ldc2 (v := 4294967295) hx hb hown (hts (.constantLong RX0 16 (4294967295)) (by decide +kernel)) dX0_becomeProduct_20 ?_
  refine lv_land hx hb dX0_becomeProduct_23 ?_
  refine lv_topl (fun x24 ex24 => ?_)
  refine lv_lstore (lv' := [(11, .long x24), (9, .long x17), (7, .long x11), (5, .long x4), (0, .ref h0), (1, .long a), (3, .long b)]) hx hb dX0_becomeProduct_24 hl (by decide) rfl (fun ls hl => ?_)
  refine lv_lload hx hb dX0_becomeProduct_26 (lv_at hl 3 rfl) ?_
  refine lv_lload hx hb dX0_becomeProduct_28 (lv_at hl 0 rfl) ?_
  refine lv_lmul hx hb dX0_becomeProduct_30 ?_
  refine lv_lload hx hb dX0_becomeProduct_31 (lv_at hl 2 rfl) ?_
  refine lv_lload hx hb dX0_becomeProduct_33 (lv_at hl 0 rfl) ?_
  refine lv_lmul hx hb dX0_becomeProduct_35 ?_
  refine lv_bipush (v := 32) hx hb dX0_becomeProduct_36 (by decide) ?_
  refine lv_lushr hx hb dX0_becomeProduct_38 rfl ?_
  refine lv_ladd hx hb dX0_becomeProduct_39 ?_
  refine lv_topl (fun x40 ex40 => ?_)
  refine lv_lstore (lv' := [(13, .long x40), (11, .long x24), (9, .long x17), (7, .long x11), (5, .long x4), (0, .ref h0), (1, .long a), (3, .long b)]) hx hb dX0_becomeProduct_40 hl (by decide) rfl (fun ls hl => ?_)
  refine lv_lload hx hb dX0_becomeProduct_42 (lv_at hl 3 rfl) ?_
  refine lv_lload hx hb dX0_becomeProduct_44 (lv_at hl 2 rfl) ?_
  refine lv_lmul hx hb dX0_becomeProduct_46 ?_
  refine lv_lload hx hb dX0_becomeProduct_47 (lv_at hl 0 rfl) ?_
  refine lv_ldc2 (v := 4294967295) hx hb hown (hts (.constantLong RX0 16 (4294967295)) (by decide +kernel)) dX0_becomeProduct_49 ?_
  refine lv_land hx hb dX0_becomeProduct_52 ?_
  refine lv_ladd hx hb dX0_becomeProduct_53 ?_
  refine lv_topl (fun x54 ex54 => ?_)
  refine lv_lstore (lv' := [(15, .long x54), (13, .long x40), (11, .long x24), (9, .long x17), (7, .long x11), (5, .long x4), (0, .ref h0), (1, .long a), (3, .long b)]) hx hb dX0_becomeProduct_54 hl (by decide) rfl (fun ls hl => ?_)
  refine lv_aload_n hx hb dX0_becomeProduct_56 rfl (lv_at hl 6 rfl) ?_
  refine lv_lload hx hb dX0_becomeProduct_57 (lv_at hl 5 rfl) ?_
  refine lv_lload hx hb dX0_becomeProduct_59 (lv_at hl 3 rfl) ?_
  refine lv_lmul hx hb dX0_becomeProduct_61 ?_
  refine lv_lload hx hb dX0_becomeProduct_62 (lv_at hl 1 rfl) ?_
  refine lv_bipush (v := 32) hx hb dX0_becomeProduct_64 (by decide) ?_
  refine lv_lshr hx hb dX0_becomeProduct_66 rfl ?_
  refine lv_ladd hx hb dX0_becomeProduct_67 ?_
  refine lv_lload hx hb dX0_becomeProduct_68 (lv_at hl 0 rfl) ?_
  refine lv_bipush (v := 32) hx hb dX0_becomeProduct_70 (by decide) ?_
  refine lv_lshr hx hb dX0_becomeProduct_72 rfl ?_
  refine lv_ladd hx hb dX0_becomeProduct_73 ?_
  refine va_put (D := D) (ci := ciW) (v := .long (((x4 * x17) + (x40 >>> ((32 : Int32).toInt64 &&& 63))) + (x54 >>> ((32 : Int32).toInt64 &&& 63)))) (ty := .long) (C := RX0) (T := TX0) (N := 2) hx hb hts (by decide +kernel) tyX0 tyX0_ok nmX0 hown hK hP hD hS k hk rfl 0 (by decide) (hts (.fieldLink RX0 9 "ExactDesk$Wide" "high" "J") (by decide +kernel)) (fun _ h9 => h9) rfl (by decide +kernel) rfl rfl (Nat.le_of_ble_eq_true rfl) dX0_becomeProduct_74 (fun H locs hP hD hS => ?_)
  obtain ⟨ws1, hws1⟩ : ∃ q_, q_ = ws.set k (h0, .inr (ciW, [.long (((x4 * x17) + (x40 >>> ((32 : Int32).toInt64 &&& 63))) + (x54 >>> ((32 : Int32).toInt64 &&& 63))), .long fl])) := ⟨_, rfl⟩
  have hP : va_P D vwCl ws1 H := by rw [hws1]; exact hP
  have hD : va_D A ws1 := by rw [hws1]; exact hD
  have hk : ws1[k]? = some (h0, .inr (ciW, [.long (((x4 * x17) + (x40 >>> ((32 : Int32).toInt64 &&& 63))) + (x54 >>> ((32 : Int32).toInt64 &&& 63))), .long fl])) := by rw [hws1]; exact sgS hk
  refine lv_aload_n hx hb dX0_becomeProduct_77 rfl (lv_at hl 6 rfl) ?_
  refine lv_lload_n hx hb dX0_becomeProduct_78 rfl (lv_at hl 7 rfl) ?_
  refine lv_lload_n hx hb dX0_becomeProduct_79 rfl (lv_at hl 8 rfl) ?_
  refine lv_lmul hx hb dX0_becomeProduct_80 ?_
  refine va_put (D := D) (ci := ciW) (v := .long (a * b)) (ty := .long) (C := RX0) (T := TX0) (N := 2) hx hb hts (by decide +kernel) tyX0 tyX0_ok nmX0 hown hK hP hD hS k hk rfl 1 (by decide) (hts (.fieldLink RX0 13 "ExactDesk$Wide" "low" "J") (by decide +kernel)) (fun _ h9 => h9) rfl (by decide +kernel) rfl rfl (Nat.le_of_ble_eq_true rfl) dX0_becomeProduct_81 (fun H locs hP hD hS => ?_)
  obtain ⟨ws2, hws2⟩ : ∃ q_, q_ = ws1.set k (h0, .inr (ciW, [.long (((x4 * x17) + (x40 >>> ((32 : Int32).toInt64 &&& 63))) + (x54 >>> ((32 : Int32).toInt64 &&& 63))), .long (a * b)])) := ⟨_, rfl⟩
  have hP : va_P D vwCl ws2 H := by rw [hws2]; exact hP
  have hD : va_D A ws2 := by rw [hws2]; exact hD
  have hk : ws2[k]? = some (h0, .inr (ciW, [.long (((x4 * x17) + (x40 >>> ((32 : Int32).toInt64 &&& 63))) + (x54 >>> ((32 : Int32).toInt64 &&& 63))), .long (a * b)])) := by rw [hws2]; exact sgS hk
  exact xb_vr hx hb hr hlocks hP hK hD hS dX0_becomeProduct_84 (by rw [hws2, hws1, List.set_set]; exact wd_eq (w_mul a b ex4 ex11 ex17 ex24 ex40 ex54))
set_option maxHeartbeats 4000000 in
set_option maxRecDepth 100000 in
theorem cW_addWords (l : Launch) (D : va_G) {tys : xT} {ws : va_W} {sz : Nat} {k h0 : Nat} {z : Int} (hk : ws[k]? = some (h0, wdI z)) {y : Int} {h2 w2 : Int64} (hz : zR z) (e2 : h2.toInt * 18446744073709551616 + (uN w2 : Int) = y) (hs : zR (z + y)) : xM l yX0_addWords wsX0_addWords ({ frames := 1, cells := 0, slots := 0, locals := 23 }) D tys ws sz [.ref h0, .long h2, .long w2] (xQv D tys (fun w => w = ws.set k (h0, wdI (z + y)))) 0 0 := by
  refine xb_m (cc := cX0_addWords) (maxL := 9) (ret := none) (by decide) rfl (Nat.le_of_ble_eq_true rfl) ?_
  intro p e s m below meth c A ls hx hb hr hml hown hts hlocks hnm hA hP hK hD hS hl
  have hl : lv_has ls 9 [(0, .ref h0), (1, .long h2), (3, .long w2)] := hl
  have hown : s.vm.findClass RX0 = some m.cls := hown
  refine lv_aload_n hx hb dX0_addWords_0 rfl (lv_at hl 0 rfl) ?_
  refine va_get (D := D) (ci := ciW) (v := .long (zl z)) (C := RX0) (T := TX0) (N := 2) hx hb hts (by decide +kernel) hown hK hP k hk rfl 1 (by decide) (hts (.fieldLink RX0 13 "ExactDesk$Wide" "low" "J") (by decide +kernel)) (fun _ h9 => h9) rfl dX0_addWords_1 ?_
  refine lv_lload_n hx hb dX0_addWords_4 rfl (lv_at hl 2 rfl) ?_
  refine lv_ladd hx hb dX0_addWords_5 ?_
  refine lv_lstore (lv' := [(5, .long ((zl z) + w2)), (0, .ref h0), (1, .long h2), (3, .long w2)]) hx hb dX0_addWords_6 hl (by decide) rfl (fun ls hl => ?_)
  refine lv_lload hx hb dX0_addWords_8 (lv_at hl 0 rfl) ?_
  refine lv_lload_n hx hb dX0_addWords_10 rfl (lv_at hl 3 rfl) ?_
  refine xb_ri (va_runS (As := [.long ((zl z) + w2), .long w2]) (rest := []) ⟨hx, hb, hml, hown, hts⟩ (cW_uless l D ((zl z) + w2) w2) (va_cwS 2 hts gX0_addWords_X0_unsignedLess rfl rfl rfl (by decide +kernel) ⟨Nat.le_of_ble_eq_true rfl, Nat.le_of_ble_eq_true rfl⟩) (xb_ps rfl hP hK hD) rfl rfl hl.1 rfl (lv_room (Nat.le_of_ble_eq_true rfl)) dX0_addWords_11 ⟨Nat.le_of_ble_eq_true rfl, Nat.le_of_ble_eq_true rfl⟩) hD hS hA (fun r11 ws1 H locs hws1 hP hD hS => ?_)
  obtain ⟨hr11, rfl⟩ := hws1
  refine lv_if_eq (tgt := 21) hx hb dX0_addWords_14 (by decide) (fun c14 => ?_) (fun c14 => ?_)
  · have c14 := bz_0 hr11 c14
    refine lv_lconst (v := 0) hx hb dX0_addWords_21 (by decide) ?_
    refine lv_lstore (lv' := [(7, .long 0), (5, .long ((zl z) + w2)), (0, .ref h0), (1, .long h2), (3, .long w2)]) hx hb dX0_addWords_22 hl (by decide) rfl (fun ls hl => ?_)
    refine lv_aload_n hx hb dX0_addWords_24 rfl (lv_at hl 2 rfl) ?_
    refine lv_aload_n hx hb dX0_addWords_25 rfl (lv_at hl 2 rfl) ?_
    refine va_get (D := D) (ci := ciW) (v := .long (zh z)) (C := RX0) (T := TX0) (N := 2) hx hb hts (by decide +kernel) hown hK hP k hk rfl 0 (by decide) (hts (.fieldLink RX0 9 "ExactDesk$Wide" "high" "J") (by decide +kernel)) (fun _ h9 => h9) rfl dX0_addWords_26 ?_
    refine lv_lload_n hx hb dX0_addWords_29 rfl (lv_at hl 3 rfl) ?_
    refine lv_ladd hx hb dX0_addWords_30 ?_
    refine lv_lload hx hb dX0_addWords_31 (lv_at hl 0 rfl) ?_
    refine lv_ladd hx hb dX0_addWords_33 ?_
    refine va_put (D := D) (ci := ciW) (v := .long (((zh z) + h2) + 0)) (ty := .long) (C := RX0) (T := TX0) (N := 2) hx hb hts (by decide +kernel) tyX0 tyX0_ok nmX0 hown hK hP hD hS k hk rfl 0 (by decide) (hts (.fieldLink RX0 9 "ExactDesk$Wide" "high" "J") (by decide +kernel)) (fun _ h9 => h9) rfl (by decide +kernel) rfl rfl (Nat.le_of_ble_eq_true rfl) dX0_addWords_34 (fun H locs hP hD hS => ?_)
    obtain ⟨ws2, hws2⟩ : ∃ q_, q_ = ws.set k (h0, .inr (ciW, [.long (((zh z) + h2) + 0), .long (zl z)])) := ⟨_, rfl⟩
    have hP : va_P D vwCl ws2 H := by rw [hws2]; exact hP
    have hD : va_D A ws2 := by rw [hws2]; exact hD
    have hk : ws2[k]? = some (h0, .inr (ciW, [.long (((zh z) + h2) + 0), .long (zl z)])) := by rw [hws2]; exact sgS hk
    refine lv_aload_n hx hb dX0_addWords_37 rfl (lv_at hl 2 rfl) ?_
    refine lv_lload hx hb dX0_addWords_38 (lv_at hl 1 rfl) ?_
    refine va_put (D := D) (ci := ciW) (v := .long ((zl z) + w2)) (ty := .long) (C := RX0) (T := TX0) (N := 2) hx hb hts (by decide +kernel) tyX0 tyX0_ok nmX0 hown hK hP hD hS k hk rfl 1 (by decide) (hts (.fieldLink RX0 13 "ExactDesk$Wide" "low" "J") (by decide +kernel)) (fun _ h9 => h9) rfl (by decide +kernel) rfl rfl (Nat.le_of_ble_eq_true rfl) dX0_addWords_40 (fun H locs hP hD hS => ?_)
    obtain ⟨ws3, hws3⟩ : ∃ q_, q_ = ws2.set k (h0, .inr (ciW, [.long (((zh z) + h2) + 0), .long ((zl z) + w2)])) := ⟨_, rfl⟩
    have hP : va_P D vwCl ws3 H := by rw [hws3]; exact hP
    have hD : va_D A ws3 := by rw [hws3]; exact hD
    have hk : ws3[k]? = some (h0, .inr (ciW, [.long (((zh z) + h2) + 0), .long ((zl z) + w2)])) := by rw [hws3]; exact sgS hk
    exact xb_vr hx hb hr hlocks hP hK hD hS dX0_addWords_43 (by rw [hws3, hws2, List.set_set]; exact wd_eq (w_add hz e2 hs (Or.inr ⟨c14, rfl⟩)))
  · have c14 := bz_1 hr11 c14
    refine lv_lconst (v := 1) hx hb dX0_addWords_17 (by decide) ?_
    refine lv_goto (tgt := 22) hx hb dX0_addWords_18 (by decide) ?_
    refine lv_lstore (lv' := [(7, .long 1), (5, .long ((zl z) + w2)), (0, .ref h0), (1, .long h2), (3, .long w2)]) hx hb dX0_addWords_22 hl (by decide) rfl (fun ls hl => ?_)
    refine lv_aload_n hx hb dX0_addWords_24 rfl (lv_at hl 2 rfl) ?_
    refine lv_aload_n hx hb dX0_addWords_25 rfl (lv_at hl 2 rfl) ?_
    refine va_get (D := D) (ci := ciW) (v := .long (zh z)) (C := RX0) (T := TX0) (N := 2) hx hb hts (by decide +kernel) hown hK hP k hk rfl 0 (by decide) (hts (.fieldLink RX0 9 "ExactDesk$Wide" "high" "J") (by decide +kernel)) (fun _ h9 => h9) rfl dX0_addWords_26 ?_
    refine lv_lload_n hx hb dX0_addWords_29 rfl (lv_at hl 3 rfl) ?_
    refine lv_ladd hx hb dX0_addWords_30 ?_
    refine lv_lload hx hb dX0_addWords_31 (lv_at hl 0 rfl) ?_
    refine lv_ladd hx hb dX0_addWords_33 ?_
    refine va_put (D := D) (ci := ciW) (v := .long (((zh z) + h2) + 1)) (ty := .long) (C := RX0) (T := TX0) (N := 2) hx hb hts (by decide +kernel) tyX0 tyX0_ok nmX0 hown hK hP hD hS k hk rfl 0 (by decide) (hts (.fieldLink RX0 9 "ExactDesk$Wide" "high" "J") (by decide +kernel)) (fun _ h9 => h9) rfl (by decide +kernel) rfl rfl (Nat.le_of_ble_eq_true rfl) dX0_addWords_34 (fun H locs hP hD hS => ?_)
    obtain ⟨ws2, hws2⟩ : ∃ q_, q_ = ws.set k (h0, .inr (ciW, [.long (((zh z) + h2) + 1), .long (zl z)])) := ⟨_, rfl⟩
    have hP : va_P D vwCl ws2 H := by rw [hws2]; exact hP
    have hD : va_D A ws2 := by rw [hws2]; exact hD
    have hk : ws2[k]? = some (h0, .inr (ciW, [.long (((zh z) + h2) + 1), .long (zl z)])) := by rw [hws2]; exact sgS hk
    refine lv_aload_n hx hb dX0_addWords_37 rfl (lv_at hl 2 rfl) ?_
    refine lv_lload hx hb dX0_addWords_38 (lv_at hl 1 rfl) ?_
    refine va_put (D := D) (ci := ciW) (v := .long ((zl z) + w2)) (ty := .long) (C := RX0) (T := TX0) (N := 2) hx hb hts (by decide +kernel) tyX0 tyX0_ok nmX0 hown hK hP hD hS k hk rfl 1 (by decide) (hts (.fieldLink RX0 13 "ExactDesk$Wide" "low" "J") (by decide +kernel)) (fun _ h9 => h9) rfl (by decide +kernel) rfl rfl (Nat.le_of_ble_eq_true rfl) dX0_addWords_40 (fun H locs hP hD hS => ?_)
    obtain ⟨ws3, hws3⟩ : ∃ q_, q_ = ws2.set k (h0, .inr (ciW, [.long (((zh z) + h2) + 1), .long ((zl z) + w2)])) := ⟨_, rfl⟩
    have hP : va_P D vwCl ws3 H := by rw [hws3]; exact hP
    have hD : va_D A ws3 := by rw [hws3]; exact hD
    have hk : ws3[k]? = some (h0, .inr (ciW, [.long (((zh z) + h2) + 1), .long ((zl z) + w2)])) := by rw [hws3]; exact sgS hk
    exact xb_vr hx hb hr hlocks hP hK hD hS dX0_addWords_43 (by rw [hws3, hws2, List.set_set]; exact wd_eq (w_add hz e2 hs (Or.inl ⟨c14, rfl⟩)))
set_option maxHeartbeats 4000000 in
set_option maxRecDepth 100000 in
theorem cW_incL (l : Launch) (D : va_G) {tys : xT} {ws : va_W} {sz : Nat} {k h0 : Nat} {z : Int} (hk : ws[k]? = some (h0, wdI z)) (v : Int64) (hz : zR z) (hs : zR (z + v.toInt)) : xM l yX0_increase wsX0_increase ({ frames := 2, cells := 0, slots := 0, locals := 51 }) D tys ws sz [.ref h0, .long v] (xQv D tys (fun w => w = ws.set k (h0, wdI (z + v.toInt)))) 0 0 := by
  refine xb_m (cc := cX0_increase) (maxL := 3) (ret := none) (by decide) rfl (Nat.le_of_ble_eq_true rfl) ?_
  intro p e s m below meth c A ls hx hb hr hml hown hts hlocks hnm hA hP hK hD hS hl
  have hl : lv_has ls 3 [(0, .ref h0), (1, .long v)] := hl
  have hown : s.vm.findClass RX0 = some m.cls := hown
  refine lv_aload_n hx hb dX0_increase_0 rfl (lv_at hl 0 rfl) ?_
  refine lv_lload_n hx hb dX0_increase_1 rfl (lv_at hl 1 rfl) ?_
  refine lv_bipush (v := 63) hx hb dX0_increase_2 (by decide) ?_
  refine lv_lshr hx hb dX0_increase_4 rfl ?_
  refine lv_lload_n hx hb dX0_increase_5 rfl (lv_at hl 1 rfl) ?_
  refine xb_rv (va_runV (As := [.long (v >>> ((63 : Int32).toInt64 &&& 63)), .long v]) (rest := []) ⟨hx, hb, hml, hown, hts⟩ (cW_addWords l D hk hz (w_lv v) hs) (cwV 2 hts gX0_increase_X0_addWords rfl rfl rfl (by decide +kernel) ⟨Nat.le_of_ble_eq_true rfl, Nat.le_of_ble_eq_true rfl⟩) (xb_pv hP hK hD rfl rfl hk) rfl rfl hl.1 rfl (lv_room (Nat.le_of_ble_eq_true rfl)) dX0_increase_6 ⟨Nat.le_of_ble_eq_true rfl, Nat.le_of_ble_eq_true rfl⟩) hD hS hA (fun ws1 H locs hws1 hP hD hS => ?_)
  exact xb_vr hx hb hr hlocks hP hK hD hS dX0_increase_9 (hws1)
set_option maxHeartbeats 4000000 in
set_option maxRecDepth 100000 in
theorem cW_incW (l : Launch) (D : va_G) {tys : xT} {ws : va_W} {sz : Nat} {k h0 : Nat} {z : Int} (hk : ws[k]? = some (h0, wdI z)) {k2 h1 : Nat} {y : Int} (hk2 : ws[k2]? = some (h1, wdI y)) (hz : zR z) (hy : zR y) (hs : zR (z + y)) : xM l yX0_increase_ wsX0_increase_ ({ frames := 2, cells := 0, slots := 0, locals := 51 }) D tys ws sz [.ref h0, .ref h1] (xQv D tys (fun w => w = ws.set k (h0, wdI (z + y)))) 0 0 := by
  refine xb_m (cc := cX0_increase_) (maxL := 2) (ret := none) (by decide) rfl (Nat.le_of_ble_eq_true rfl) ?_
  intro p e s m below meth c A ls hx hb hr hml hown hts hlocks hnm hA hP hK hD hS hl
  have hl : lv_has ls 2 [(0, .ref h0), (1, .ref h1)] := hl
  have hown : s.vm.findClass RX0 = some m.cls := hown
  refine lv_aload_n hx hb dX0_increase__0 rfl (lv_at hl 0 rfl) ?_
  refine lv_aload_n hx hb dX0_increase__1 rfl (lv_at hl 1 rfl) ?_
  refine va_get (D := D) (ci := ciW) (v := .long (zh y)) (C := RX0) (T := TX0) (N := 2) hx hb hts (by decide +kernel) hown hK hP k2 hk2 rfl 0 (by decide) (hts (.fieldLink RX0 9 "ExactDesk$Wide" "high" "J") (by decide +kernel)) (fun _ h9 => h9) rfl dX0_increase__2 ?_
  refine lv_aload_n hx hb dX0_increase__5 rfl (lv_at hl 1 rfl) ?_
  refine va_get (D := D) (ci := ciW) (v := .long (zl y)) (C := RX0) (T := TX0) (N := 2) hx hb hts (by decide +kernel) hown hK hP k2 hk2 rfl 1 (by decide) (hts (.fieldLink RX0 13 "ExactDesk$Wide" "low" "J") (by decide +kernel)) (fun _ h9 => h9) rfl dX0_increase__6 ?_
  refine xb_rv (va_runV (As := [.long (zh y), .long (zl y)]) (rest := []) ⟨hx, hb, hml, hown, hts⟩ (cW_addWords l D hk hz (zz_val hy) hs) (cwV 2 hts gX0_increase__X0_addWords rfl rfl rfl (by decide +kernel) ⟨Nat.le_of_ble_eq_true rfl, Nat.le_of_ble_eq_true rfl⟩) (xb_pv hP hK hD rfl rfl hk) rfl rfl hl.1 rfl (lv_room (Nat.le_of_ble_eq_true rfl)) dX0_increase__9 ⟨Nat.le_of_ble_eq_true rfl, Nat.le_of_ble_eq_true rfl⟩) hD hS hA (fun ws1 H locs hws1 hP hD hS => ?_)
  exact xb_vr hx hb hr hlocks hP hK hD hS dX0_increase__12 (hws1)
set_option maxHeartbeats 4000000 in
set_option maxRecDepth 100000 in
theorem cW_neg (l : Launch) (D : va_G) {tys : xT} {ws : va_W} {sz : Nat} {k h0 : Nat} {z : Int} (hk : ws[k]? = some (h0, wdI z)) (hz : zR z) (hs : zR (-z)) : xM l yX0_negate wsX0_negate ({ frames := 0, cells := 0, slots := 0, locals := 0 }) D tys ws sz [.ref h0] (xQv D tys (fun w => w = ws.set k (h0, wdI (-z)))) 0 0 := by
  refine xb_m (cc := cX0_negate) (maxL := 1) (ret := none) (by decide) rfl (Nat.le_of_ble_eq_true rfl) ?_
  intro p e s m below meth c A ls hx hb hr hml hown hts hlocks hnm hA hP hK hD hS hl
  have hl : lv_has ls 1 [(0, .ref h0)] := hl
  have hown : s.vm.findClass RX0 = some m.cls := hown
  refine lv_aload_n hx hb dX0_negate_0 rfl (lv_at hl 0 rfl) ?_
  refine lv_aload_n hx hb dX0_negate_1 rfl (lv_at hl 0 rfl) ?_
  refine va_get (D := D) (ci := ciW) (v := .long (zl z)) (C := RX0) (T := TX0) (N := 2) hx hb hts (by decide +kernel) hown hK hP k hk rfl 1 (by decide) (hts (.fieldLink RX0 13 "ExactDesk$Wide" "low" "J") (by decide +kernel)) (fun _ h9 => h9) rfl dX0_negate_2 ?_
  refine lv_lneg hx hb dX0_negate_5 ?_
  refine va_put (D := D) (ci := ciW) (v := .long (-(zl z))) (ty := .long) (C := RX0) (T := TX0) (N := 2) hx hb hts (by decide +kernel) tyX0 tyX0_ok nmX0 hown hK hP hD hS k hk rfl 1 (by decide) (hts (.fieldLink RX0 13 "ExactDesk$Wide" "low" "J") (by decide +kernel)) (fun _ h9 => h9) rfl (by decide +kernel) rfl rfl (Nat.le_of_ble_eq_true rfl) dX0_negate_6 (fun H locs hP hD hS => ?_)
  obtain ⟨ws1, hws1⟩ : ∃ q_, q_ = ws.set k (h0, .inr (ciW, [.long (zh z), .long (-(zl z))])) := ⟨_, rfl⟩
  have hP : va_P D vwCl ws1 H := by rw [hws1]; exact hP
  have hD : va_D A ws1 := by rw [hws1]; exact hD
  have hk : ws1[k]? = some (h0, .inr (ciW, [.long (zh z), .long (-(zl z))])) := by rw [hws1]; exact sgS hk
  refine lv_aload_n hx hb dX0_negate_9 rfl (lv_at hl 0 rfl) ?_
  refine lv_aload_n hx hb dX0_negate_10 rfl (lv_at hl 0 rfl) ?_
  refine va_get (D := D) (ci := ciW) (v := .long (-(zl z))) (C := RX0) (T := TX0) (N := 2) hx hb hts (by decide +kernel) hown hK hP k hk rfl 1 (by decide) (hts (.fieldLink RX0 13 "ExactDesk$Wide" "low" "J") (by decide +kernel)) (fun _ h9 => h9) rfl dX0_negate_11 ?_
  refine lv_lconst (v := 0) hx hb dX0_negate_14 (by decide) ?_
  refine W.lcmp hx hb dX0_negate_15 ?_
  refine lv_if_ne (tgt := 27) hx hb dX0_negate_16 (by decide) (fun c16 => ?_) (fun c16 => ?_)
  · rw [lg_cmp_eq] at c16
    refine lv_aload_n hx hb dX0_negate_27 rfl (lv_at hl 0 rfl) ?_
    refine va_get (D := D) (ci := ciW) (v := .long (zh z)) (C := RX0) (T := TX0) (N := 2) hx hb hts (by decide +kernel) hown hK hP k hk rfl 0 (by decide) (hts (.fieldLink RX0 9 "ExactDesk$Wide" "high" "J") (by decide +kernel)) (fun _ h9 => h9) rfl dX0_negate_28 ?_
    refine lv_ldc2 (v := (-1)) hx hb hown (hts (.constantLong RX0 26 (-1)) (by decide +kernel)) dX0_negate_31 ?_
    refine lv_lxor hx hb dX0_negate_34 ?_
    refine va_put (D := D) (ci := ciW) (v := .long ((zh z) ^^^ (-1))) (ty := .long) (C := RX0) (T := TX0) (N := 2) hx hb hts (by decide +kernel) tyX0 tyX0_ok nmX0 hown hK hP hD hS k hk rfl 0 (by decide) (hts (.fieldLink RX0 9 "ExactDesk$Wide" "high" "J") (by decide +kernel)) (fun _ h9 => h9) rfl (by decide +kernel) rfl rfl (Nat.le_of_ble_eq_true rfl) dX0_negate_35 (fun H locs hP hD hS => ?_)
    obtain ⟨ws2, hws2⟩ : ∃ q_, q_ = ws1.set k (h0, .inr (ciW, [.long ((zh z) ^^^ (-1)), .long (-(zl z))])) := ⟨_, rfl⟩
    have hP : va_P D vwCl ws2 H := by rw [hws2]; exact hP
    have hD : va_D A ws2 := by rw [hws2]; exact hD
    have hk : ws2[k]? = some (h0, .inr (ciW, [.long ((zh z) ^^^ (-1)), .long (-(zl z))])) := by rw [hws2]; exact sgS hk
    exact xb_vr hx hb hr hlocks hP hK hD hS dX0_negate_38 (by rw [hws2, hws1, List.set_set]; exact wd_eq (w_neg1 hz hs c16))
  · rw [lg_cmp_eq] at c16
    refine lv_aload_n hx hb dX0_negate_19 rfl (lv_at hl 0 rfl) ?_
    refine va_get (D := D) (ci := ciW) (v := .long (zh z)) (C := RX0) (T := TX0) (N := 2) hx hb hts (by decide +kernel) hown hK hP k hk rfl 0 (by decide) (hts (.fieldLink RX0 9 "ExactDesk$Wide" "high" "J") (by decide +kernel)) (fun _ h9 => h9) rfl dX0_negate_20 ?_
    refine lv_lneg hx hb dX0_negate_23 ?_
    refine lv_goto (tgt := 35) hx hb dX0_negate_24 (by decide) ?_
    refine va_put (D := D) (ci := ciW) (v := .long (-(zh z))) (ty := .long) (C := RX0) (T := TX0) (N := 2) hx hb hts (by decide +kernel) tyX0 tyX0_ok nmX0 hown hK hP hD hS k hk rfl 0 (by decide) (hts (.fieldLink RX0 9 "ExactDesk$Wide" "high" "J") (by decide +kernel)) (fun _ h9 => h9) rfl (by decide +kernel) rfl rfl (Nat.le_of_ble_eq_true rfl) dX0_negate_35 (fun H locs hP hD hS => ?_)
    obtain ⟨ws2, hws2⟩ : ∃ q_, q_ = ws1.set k (h0, .inr (ciW, [.long (-(zh z)), .long (-(zl z))])) := ⟨_, rfl⟩
    have hP : va_P D vwCl ws2 H := by rw [hws2]; exact hP
    have hD : va_D A ws2 := by rw [hws2]; exact hD
    have hk : ws2[k]? = some (h0, .inr (ciW, [.long (-(zh z)), .long (-(zl z))])) := by rw [hws2]; exact sgS hk
    exact xb_vr hx hb hr hlocks hP hK hD hS dX0_negate_38 (by rw [hws2, hws1, List.set_set]; exact wd_eq (w_neg0 hz hs c16))
set_option maxHeartbeats 4000000 in
set_option maxRecDepth 100000 in
theorem cW_isneg (l : Launch) (D : va_G) {tys : xT} {ws : va_W} {sz : Nat} {k h0 : Nat} {z : Int} (hk : ws[k]? = some (h0, wdI z)) (hz : zR z) : xM l yX0_isNegative wsX0_isNegative ({ frames := 0, cells := 0, slots := 0, locals := 0 }) D tys ws sz [.ref h0] (xQi D tys (fun r w => r = (if z < 0 then 1 else 0) ∧ ws = w)) 0 0 := by
  refine xb_m (cc := cX0_isNegative) (maxL := 1) (ret := (some .boolean)) (by decide) rfl (Nat.le_of_ble_eq_true rfl) ?_
  intro p e s m below meth c A ls hx hb hr hml hown hts hlocks hnm hA hP hK hD hS hl
  have hl : lv_has ls 1 [(0, .ref h0)] := hl
  have hown : s.vm.findClass RX0 = some m.cls := hown
  refine lv_aload_n hx hb dX0_isNegative_0 rfl (lv_at hl 0 rfl) ?_
  refine va_get (D := D) (ci := ciW) (v := .long (zh z)) (C := RX0) (T := TX0) (N := 2) hx hb hts (by decide +kernel) hown hK hP k hk rfl 0 (by decide) (hts (.fieldLink RX0 9 "ExactDesk$Wide" "high" "J") (by decide +kernel)) (fun _ h9 => h9) rfl dX0_isNegative_1 ?_
  refine lv_lconst (v := 0) hx hb dX0_isNegative_4 (by decide) ?_
  refine W.lcmp hx hb dX0_isNegative_5 ?_
  refine lv_if_ge (tgt := 13) hx hb dX0_isNegative_6 (by decide) (fun c6 => ?_) (fun c6 => ?_)
  · rw [lg_cmp_ge] at c6
    refine lv_iconst (v := 0) hx hb dX0_isNegative_13 (by decide) ?_
    exact xb_zr hx hb hr hlocks hP hK hD hS dX0_isNegative_14 rfl (⟨by rw [w_isneg hz] at c6; rw [if_neg (by omega)], rfl⟩)
  · rw [lg_cmp_ge] at c6
    refine lv_iconst (v := 1) hx hb dX0_isNegative_9 (by decide) ?_
    refine lv_goto (tgt := 14) hx hb dX0_isNegative_10 (by decide) ?_
    exact xb_zr hx hb hr hlocks hP hK hD hS dX0_isNegative_14 rfl (⟨by rw [w_isneg hz] at c6; rw [if_pos (by omega)], rfl⟩)
set_option maxHeartbeats 4000000 in
set_option maxRecDepth 100000 in
theorem cW_drop (l : Launch) (D : va_G) {tys : xT} {ws : va_W} {sz : Nat} {k h0 : Nat} {z : Int} (hk : ws[k]? = some (h0, wdI z)) (hz : zR z) (hs : zR (-z)) : xM l yX0_dropSign wsX0_dropSign ({ frames := 1, cells := 0, slots := 0, locals := 20 }) D tys ws sz [.ref h0] (xQv D tys (fun w => w = ws.set k (h0, wdI (z.natAbs : Int)))) 0 0 := by
  refine xb_m (cc := cX0_dropSign) (maxL := 1) (ret := none) (by decide) rfl (Nat.le_of_ble_eq_true rfl) ?_
  intro p e s m below meth c A ls hx hb hr hml hown hts hlocks hnm hA hP hK hD hS hl
  have hl : lv_has ls 1 [(0, .ref h0)] := hl
  have hown : s.vm.findClass RX0 = some m.cls := hown
  refine lv_aload_n hx hb dX0_dropSign_0 rfl (lv_at hl 0 rfl) ?_
  refine xb_ri (va_runV (As := []) (rest := []) ⟨hx, hb, hml, hown, hts⟩ (cW_isneg l D hk hz) (cwV 0 hts gX0_dropSign_X0_isNegative rfl rfl rfl (by decide +kernel) ⟨Nat.le_of_ble_eq_true rfl, Nat.le_of_ble_eq_true rfl⟩) (xb_pv hP hK hD rfl rfl hk) rfl rfl hl.1 rfl (lv_room (Nat.le_of_ble_eq_true rfl)) dX0_dropSign_1 ⟨Nat.le_of_ble_eq_true rfl, Nat.le_of_ble_eq_true rfl⟩) hD hS hA (fun r1 ws1 H locs hws1 hP hD hS => ?_)
  obtain ⟨hr1, rfl⟩ := hws1
  refine lv_if_eq (tgt := 11) hx hb dX0_dropSign_4 (by decide) (fun c4 => ?_) (fun c4 => ?_)
  · have c4 := bz_0 hr1 c4
    exact xb_vr hx hb hr hlocks hP hK hD hS dX0_dropSign_11 (by rw [show (z.natAbs : Int) = z by omega, set_same hk])
  · have c4 := bz_1 hr1 c4
    refine lv_aload_n hx hb dX0_dropSign_7 rfl (lv_at hl 0 rfl) ?_
    refine xb_rv (va_runV (As := []) (rest := []) ⟨hx, hb, hml, hown, hts⟩ (cW_neg l D hk hz hs) (cwV 0 hts gX0_dropSign_X0_negate rfl rfl rfl (by decide +kernel) ⟨Nat.le_of_ble_eq_true rfl, Nat.le_of_ble_eq_true rfl⟩) (xb_pv hP hK hD rfl rfl hk) rfl rfl hl.1 rfl (lv_room (Nat.le_of_ble_eq_true rfl)) dX0_dropSign_8 ⟨Nat.le_of_ble_eq_true rfl, Nat.le_of_ble_eq_true rfl⟩) hD hS hA (fun ws2 H locs hws2 hP hD hS => ?_)
    exact xb_vr hx hb hr hlocks hP hK hD hS dX0_dropSign_11 (by rw [show (z.natAbs : Int) = -z by omega]; exact hws2)
set_option maxHeartbeats 4000000 in
set_option maxRecDepth 100000 in
theorem cW_low (l : Launch) (D : va_G) {tys : xT} {ws : va_W} {sz : Nat} {k h0 : Nat} {z : Int} (hk : ws[k]? = some (h0, wdI z)) : xM l yX0_lowWord wsX0_lowWord ({ frames := 0, cells := 0, slots := 0, locals := 0 }) D tys ws sz [.ref h0] (xQl D tys (fun r w => r = zl z ∧ ws = w)) 0 0 := by
  refine xb_m (cc := cX0_lowWord) (maxL := 1) (ret := (some .long)) (by decide) rfl (Nat.le_of_ble_eq_true rfl) ?_
  intro p e s m below meth c A ls hx hb hr hml hown hts hlocks hnm hA hP hK hD hS hl
  have hl : lv_has ls 1 [(0, .ref h0)] := hl
  have hown : s.vm.findClass RX0 = some m.cls := hown
  refine lv_aload_n hx hb dX0_lowWord_0 rfl (lv_at hl 0 rfl) ?_
  refine va_get (D := D) (ci := ciW) (v := .long (zl z)) (C := RX0) (T := TX0) (N := 2) hx hb hts (by decide +kernel) hown hK hP k hk rfl 1 (by decide) (hts (.fieldLink RX0 13 "ExactDesk$Wide" "low" "J") (by decide +kernel)) (fun _ h9 => h9) rfl dX0_lowWord_1 ?_
  exact xb_lr hx hb hr hlocks hP hK hD hS dX0_lowWord_4 (⟨rfl, rfl⟩)
set_option maxHeartbeats 4000000 in
set_option maxRecDepth 100000 in
theorem cW_fits (l : Launch) (D : va_G) {tys : xT} {ws : va_W} {sz : Nat} {k h0 : Nat} {z : Int} (hk : ws[k]? = some (h0, wdI z)) (hz : zR z) : xM l yX0_fitsLong wsX0_fitsLong ({ frames := 0, cells := 0, slots := 0, locals := 0 }) D tys ws sz [.ref h0] (xQi D tys (fun r w => r = (if -9223372036854775808 ≤ z ∧ z < 9223372036854775808 then 1 else 0) ∧ ws = w)) 0 0 := by
  refine xb_m (cc := cX0_fitsLong) (maxL := 1) (ret := (some .boolean)) (by decide) rfl (Nat.le_of_ble_eq_true rfl) ?_
  intro p e s m below meth c A ls hx hb hr hml hown hts hlocks hnm hA hP hK hD hS hl
  have hl : lv_has ls 1 [(0, .ref h0)] := hl
  have hown : s.vm.findClass RX0 = some m.cls := hown
  refine lv_aload_n hx hb dX0_fitsLong_0 rfl (lv_at hl 0 rfl) ?_
  refine va_get (D := D) (ci := ciW) (v := .long (zh z)) (C := RX0) (T := TX0) (N := 2) hx hb hts (by decide +kernel) hown hK hP k hk rfl 0 (by decide) (hts (.fieldLink RX0 9 "ExactDesk$Wide" "high" "J") (by decide +kernel)) (fun _ h9 => h9) rfl dX0_fitsLong_1 ?_
  refine lv_aload_n hx hb dX0_fitsLong_4 rfl (lv_at hl 0 rfl) ?_
  refine va_get (D := D) (ci := ciW) (v := .long (zl z)) (C := RX0) (T := TX0) (N := 2) hx hb hts (by decide +kernel) hown hK hP k hk rfl 1 (by decide) (hts (.fieldLink RX0 13 "ExactDesk$Wide" "low" "J") (by decide +kernel)) (fun _ h9 => h9) rfl dX0_fitsLong_5 ?_
  refine lv_bipush (v := 63) hx hb dX0_fitsLong_8 (by decide) ?_
  refine lv_lshr hx hb dX0_fitsLong_10 rfl ?_
  refine W.lcmp hx hb dX0_fitsLong_11 ?_
  refine lv_if_ne (tgt := 19) hx hb dX0_fitsLong_12 (by decide) (fun c12 => ?_) (fun c12 => ?_)
  · rw [lg_cmp_eq] at c12
    refine lv_iconst (v := 0) hx hb dX0_fitsLong_19 (by decide) ?_
    exact xb_zr hx hb hr hlocks hP hK hD hS dX0_fitsLong_20 rfl (⟨by rw [w_fits hz] at c12; rw [if_neg c12], rfl⟩)
  · rw [lg_cmp_eq] at c12
    refine lv_iconst (v := 1) hx hb dX0_fitsLong_15 (by decide) ?_
    refine lv_goto (tgt := 20) hx hb dX0_fitsLong_16 (by decide) ?_
    exact xb_zr hx hb hr hlocks hP hK hD hS dX0_fitsLong_20 rfl (⟨by rw [w_fits hz] at c12; rw [if_pos c12], rfl⟩)
set_option maxHeartbeats 4000000 in
set_option maxRecDepth 100000 in
theorem cW_ord (l : Launch) (D : va_G) {tys : xT} {ws : va_W} {sz : Nat} {k h0 : Nat} {z : Int} (hk : ws[k]? = some (h0, wdI z)) {k2 h1 : Nat} {y : Int} (hk2 : ws[k2]? = some (h1, wdI y)) (hz : zR z) (hy : zR y) : xM l yX0_orderTo wsX0_orderTo ({ frames := 1, cells := 0, slots := 0, locals := 23 }) D tys ws sz [.ref h0, .ref h1] (xQi D tys (fun r w => r = sp_ord z y ∧ ws = w)) 0 0 := by
  refine xb_m (cc := cX0_orderTo) (maxL := 2) (ret := (some .int)) (by decide) rfl (Nat.le_of_ble_eq_true rfl) ?_
  intro p e s m below meth c A ls hx hb hr hml hown hts hlocks hnm hA hP hK hD hS hl
  have hl : lv_has ls 2 [(0, .ref h0), (1, .ref h1)] := hl
  have hown : s.vm.findClass RX0 = some m.cls := hown
  refine lv_aload_n hx hb dX0_orderTo_0 rfl (lv_at hl 0 rfl) ?_
  refine va_get (D := D) (ci := ciW) (v := .long (zh z)) (C := RX0) (T := TX0) (N := 2) hx hb hts (by decide +kernel) hown hK hP k hk rfl 0 (by decide) (hts (.fieldLink RX0 9 "ExactDesk$Wide" "high" "J") (by decide +kernel)) (fun _ h9 => h9) rfl dX0_orderTo_1 ?_
  refine lv_aload_n hx hb dX0_orderTo_4 rfl (lv_at hl 1 rfl) ?_
  refine va_get (D := D) (ci := ciW) (v := .long (zh y)) (C := RX0) (T := TX0) (N := 2) hx hb hts (by decide +kernel) hown hK hP k2 hk2 rfl 0 (by decide) (hts (.fieldLink RX0 9 "ExactDesk$Wide" "high" "J") (by decide +kernel)) (fun _ h9 => h9) rfl dX0_orderTo_5 ?_
  refine W.lcmp hx hb dX0_orderTo_8 ?_
  refine lv_if_eq (tgt := 30) hx hb dX0_orderTo_9 (by decide) (fun c9 => ?_) (fun c9 => ?_)
  · rw [lg_cmp_eq] at c9
    refine lv_aload_n hx hb dX0_orderTo_30 rfl (lv_at hl 0 rfl) ?_
    refine va_get (D := D) (ci := ciW) (v := .long (zl z)) (C := RX0) (T := TX0) (N := 2) hx hb hts (by decide +kernel) hown hK hP k hk rfl 1 (by decide) (hts (.fieldLink RX0 13 "ExactDesk$Wide" "low" "J") (by decide +kernel)) (fun _ h9 => h9) rfl dX0_orderTo_31 ?_
    refine lv_aload_n hx hb dX0_orderTo_34 rfl (lv_at hl 1 rfl) ?_
    refine va_get (D := D) (ci := ciW) (v := .long (zl y)) (C := RX0) (T := TX0) (N := 2) hx hb hts (by decide +kernel) hown hK hP k2 hk2 rfl 1 (by decide) (hts (.fieldLink RX0 13 "ExactDesk$Wide" "low" "J") (by decide +kernel)) (fun _ h9 => h9) rfl dX0_orderTo_35 ?_
    refine W.lcmp hx hb dX0_orderTo_38 ?_
    refine lv_if_eq (tgt := 62) hx hb dX0_orderTo_39 (by decide) (fun c39 => ?_) (fun c39 => ?_)
    · rw [lg_cmp_eq] at c39
      refine lv_iconst (v := 0) hx hb dX0_orderTo_62 (by decide) ?_
      exact xb_ir hx hb hr hlocks hP hK hD hS dX0_orderTo_63 (⟨by rw [w_he hz hy] at c9; rw [w_le] at c39; rw [sp_ord, if_neg (by omega), if_pos (by omega)], rfl⟩)
    · rw [lg_cmp_eq] at c39
      refine lv_aload_n hx hb dX0_orderTo_42 rfl (lv_at hl 0 rfl) ?_
      refine va_get (D := D) (ci := ciW) (v := .long (zl z)) (C := RX0) (T := TX0) (N := 2) hx hb hts (by decide +kernel) hown hK hP k hk rfl 1 (by decide) (hts (.fieldLink RX0 13 "ExactDesk$Wide" "low" "J") (by decide +kernel)) (fun _ h9 => h9) rfl dX0_orderTo_43 ?_
      refine lv_aload_n hx hb dX0_orderTo_46 rfl (lv_at hl 1 rfl) ?_
      refine va_get (D := D) (ci := ciW) (v := .long (zl y)) (C := RX0) (T := TX0) (N := 2) hx hb hts (by decide +kernel) hown hK hP k2 hk2 rfl 1 (by decide) (hts (.fieldLink RX0 13 "ExactDesk$Wide" "low" "J") (by decide +kernel)) (fun _ h9 => h9) rfl dX0_orderTo_47 ?_
      refine xb_ri (va_runS (As := [.long (zl z), .long (zl y)]) (rest := []) ⟨hx, hb, hml, hown, hts⟩ (cW_uless l D (zl z) (zl y)) (va_cwS 2 hts gX0_orderTo_X0_unsignedLess rfl rfl rfl (by decide +kernel) ⟨Nat.le_of_ble_eq_true rfl, Nat.le_of_ble_eq_true rfl⟩) (xb_ps rfl hP hK hD) rfl rfl hl.1 rfl (lv_room (Nat.le_of_ble_eq_true rfl)) dX0_orderTo_50 ⟨Nat.le_of_ble_eq_true rfl, Nat.le_of_ble_eq_true rfl⟩) hD hS hA (fun r50 ws1 H locs hws1 hP hD hS => ?_)
      obtain ⟨hr50, rfl⟩ := hws1
      refine lv_if_eq (tgt := 60) hx hb dX0_orderTo_53 (by decide) (fun c53 => ?_) (fun c53 => ?_)
      · have c53 := bz_0 hr50 c53
        refine lv_iconst (v := 1) hx hb dX0_orderTo_60 (by decide) ?_
        exact xb_ir hx hb hr hlocks hP hK hD hS dX0_orderTo_61 (⟨by rw [w_he hz hy] at c9; rw [w_le] at c39; rw [w_ll] at c53; rw [sp_ord, if_neg (by omega), if_neg (by omega)], rfl⟩)
      · have c53 := bz_1 hr50 c53
        refine lv_iconst (v := (-1)) hx hb dX0_orderTo_56 (by decide) ?_
        refine lv_goto (tgt := 61) hx hb dX0_orderTo_57 (by decide) ?_
        exact xb_ir hx hb hr hlocks hP hK hD hS dX0_orderTo_61 (⟨by rw [w_he hz hy] at c9; rw [w_le] at c39; rw [w_ll] at c53; rw [sp_ord, if_pos (by omega)], rfl⟩)
  · rw [lg_cmp_eq] at c9
    refine lv_aload_n hx hb dX0_orderTo_12 rfl (lv_at hl 0 rfl) ?_
    refine va_get (D := D) (ci := ciW) (v := .long (zh z)) (C := RX0) (T := TX0) (N := 2) hx hb hts (by decide +kernel) hown hK hP k hk rfl 0 (by decide) (hts (.fieldLink RX0 9 "ExactDesk$Wide" "high" "J") (by decide +kernel)) (fun _ h9 => h9) rfl dX0_orderTo_13 ?_
    refine lv_aload_n hx hb dX0_orderTo_16 rfl (lv_at hl 1 rfl) ?_
    refine va_get (D := D) (ci := ciW) (v := .long (zh y)) (C := RX0) (T := TX0) (N := 2) hx hb hts (by decide +kernel) hown hK hP k2 hk2 rfl 0 (by decide) (hts (.fieldLink RX0 9 "ExactDesk$Wide" "high" "J") (by decide +kernel)) (fun _ h9 => h9) rfl dX0_orderTo_17 ?_
    refine W.lcmp hx hb dX0_orderTo_20 ?_
    refine lv_if_ge (tgt := 28) hx hb dX0_orderTo_21 (by decide) (fun c21 => ?_) (fun c21 => ?_)
    · rw [lg_cmp_ge] at c21
      refine lv_iconst (v := 1) hx hb dX0_orderTo_28 (by decide) ?_
      exact xb_ir hx hb hr hlocks hP hK hD hS dX0_orderTo_29 (⟨by rw [w_he hz hy] at c9; rw [w_hle hy hz] at c21; rw [sp_ord, if_neg (by omega), if_neg (by omega)], rfl⟩)
    · rw [lg_cmp_ge] at c21
      refine lv_iconst (v := (-1)) hx hb dX0_orderTo_24 (by decide) ?_
      refine lv_goto (tgt := 29) hx hb dX0_orderTo_25 (by decide) ?_
      exact xb_ir hx hb hr hlocks hP hK hD hS dX0_orderTo_29 (⟨by rw [w_he hz hy] at c9; rw [w_hle hy hz] at c21; rw [sp_ord, if_pos (by omega)], rfl⟩)
set_option maxHeartbeats 4000000 in
set_option maxRecDepth 100000 in
theorem cW_div (l : Launch) (D : va_G) {tys : xT} {ws : va_W} {sz : Nat} {k h0 : Nat} {z : Int} (hk : ws[k]? = some (h0, wdI z)) (d : Int64) (h0z : 0 ≤ z) (hz : zR z) (hd0 : 0 < uN d) (hd : uN d ≤ 9223372036854775808) : xM l yX0_divideBy wsX0_divideBy ({ frames := 1, cells := 0, slots := 0, locals := 23 }) D tys ws sz [.ref h0, .long d] (xQl D tys (fun r w => w = ws.set k (h0, wdI (z / (uN d : Int))) ∧ (uN r : Int) = z % (uN d : Int))) 0 0 := by
  refine xb_m (cc := cX0_divideBy) (maxL := 6) (ret := (some .long)) (by decide) rfl (Nat.le_of_ble_eq_true rfl) ?_
  intro p e s m below meth c A ls hx hb hr hml hown hts hlocks hnm hA hP hK hD hS hl
  have hl : lv_has ls 6 [(0, .ref h0), (1, .long d)] := hl
  have hown : s.vm.findClass RX0 = some m.cls := hown
  have loop : ∀ (n i : Nat) (hi lo r : Int64) (x5 : Int32) (ws1 : va_W) (H : Heap) (locs : List Loc) (ls : Array Slot), i ≤ 128 → 128 < i + n → x5 = nI i → ws1 = ws.set k (h0, .inr (ciW, [.long hi, .long lo])) → dvI (uN d) z.toNat i (uN hi * 18446744073709551616 + uN lo) (uN r) → va_P D vwCl ws1 H → va_D A ws1 → va_S A s.heap H locs → lv_has ls 6 [(0, .ref h0), (1, .long d), (3, .long r), (5, .int x5)] → W p l e ({ frames := 1, cells := 0, slots := 0, locals := 23 }) s m [.ref h0, .long d].toArray below meth c H locs 0 0 (MQ below (xQl D tys (fun r w => w = ws.set k (h0, wdI (z / (uN d : Int))) ∧ (uN r : Int) = z % (uN d : Int)) A) [.ref h0, .long d].toArray s 0 0 A) (F0 m 5 ls []) := by
    intro n
    induction n with
    | zero =>
      intro i hi lo r x5 ws1 H locs ls h1 h2
      omega
    | succ n ih =>
      intro i hi lo r x5 ws1 H locs ls h1 h2 ex5 hws1 hI hP hD hS hl
      have hk : ws1[k]? = some (h0, .inr (ciW, [.long hi, .long lo])) := by rw [hws1]; exact sgS hk
      have hI_lt : uN r < uN d := by obtain ⟨T, Q, i1, i2, i3, i4, i5⟩ := hI; exact i5
      refine lv_iload hx hb dX0_divideBy_5 (lv_at hl 3 rfl) ?_
      refine lv_sipush (v := 128) hx hb dX0_divideBy_7 (by decide) ?_
      refine lv_icmp_ge (tgt := 81) hx hb dX0_divideBy_10 (by decide) (fun c10 => ?_) (fun c10 => ?_)
      · refine lv_lload_n hx hb dX0_divideBy_81 rfl (lv_at hl 2 rfl) ?_
        exact xb_lr hx hb hr hlocks hP hK hD hS dX0_divideBy_82 (dv_fin hws1 h0z hz hd0 hI c10 h1 ex5)
      · refine lv_lload_n hx hb dX0_divideBy_13 rfl (lv_at hl 2 rfl) ?_
        refine lv_iconst (v := 1) hx hb dX0_divideBy_14 (by decide) ?_
        refine lv_lshl hx hb dX0_divideBy_15 rfl ?_
        refine lv_aload_n hx hb dX0_divideBy_16 rfl (lv_at hl 0 rfl) ?_
        refine va_get (D := D) (ci := ciW) (v := .long hi) (C := RX0) (T := TX0) (N := 2) hx hb hts (by decide +kernel) hown hK hP k hk rfl 0 (by decide) (hts (.fieldLink RX0 9 "ExactDesk$Wide" "high" "J") (by decide +kernel)) (fun _ h9 => h9) rfl dX0_divideBy_17 ?_
        refine lv_bipush (v := 63) hx hb dX0_divideBy_20 (by decide) ?_
        refine lv_lushr hx hb dX0_divideBy_22 rfl ?_
        refine lv_lor hx hb dX0_divideBy_23 ?_
        refine lv_lstore_n (lv' := [(3, .long ((r <<< ((1 : Int32).toInt64 &&& 63)) ||| ((hi.toUInt64 >>> ((63 : Int32).toInt64.toUInt64 &&& Int64.toUInt64 63)).toInt64))), (0, .ref h0), (1, .long d), (5, .int x5)]) hx hb dX0_divideBy_24 rfl hl (by decide) rfl (fun ls hl => ?_)
        refine lv_aload_n hx hb dX0_divideBy_25 rfl (lv_at hl 1 rfl) ?_
        refine lv_aload_n hx hb dX0_divideBy_26 rfl (lv_at hl 1 rfl) ?_
        refine va_get (D := D) (ci := ciW) (v := .long hi) (C := RX0) (T := TX0) (N := 2) hx hb hts (by decide +kernel) hown hK hP k hk rfl 0 (by decide) (hts (.fieldLink RX0 9 "ExactDesk$Wide" "high" "J") (by decide +kernel)) (fun _ h9 => h9) rfl dX0_divideBy_27 ?_
        refine lv_iconst (v := 1) hx hb dX0_divideBy_30 (by decide) ?_
        refine lv_lshl hx hb dX0_divideBy_31 rfl ?_
        refine lv_aload_n hx hb dX0_divideBy_32 rfl (lv_at hl 1 rfl) ?_
        refine va_get (D := D) (ci := ciW) (v := .long lo) (C := RX0) (T := TX0) (N := 2) hx hb hts (by decide +kernel) hown hK hP k hk rfl 1 (by decide) (hts (.fieldLink RX0 13 "ExactDesk$Wide" "low" "J") (by decide +kernel)) (fun _ h9 => h9) rfl dX0_divideBy_33 ?_
        refine lv_bipush (v := 63) hx hb dX0_divideBy_36 (by decide) ?_
        refine lv_lushr hx hb dX0_divideBy_38 rfl ?_
        refine lv_lor hx hb dX0_divideBy_39 ?_
        refine va_put (D := D) (ci := ciW) (v := .long ((hi <<< ((1 : Int32).toInt64 &&& 63)) ||| ((lo.toUInt64 >>> ((63 : Int32).toInt64.toUInt64 &&& Int64.toUInt64 63)).toInt64))) (ty := .long) (C := RX0) (T := TX0) (N := 2) hx hb hts (by decide +kernel) tyX0 tyX0_ok nmX0 hown hK hP hD hS k hk rfl 0 (by decide) (hts (.fieldLink RX0 9 "ExactDesk$Wide" "high" "J") (by decide +kernel)) (fun _ h9 => h9) rfl (by decide +kernel) rfl rfl (Nat.le_of_ble_eq_true rfl) dX0_divideBy_40 (fun H locs hP hD hS => ?_)
        obtain ⟨ws2, hws2⟩ : ∃ q_, q_ = ws1.set k (h0, .inr (ciW, [.long ((hi <<< ((1 : Int32).toInt64 &&& 63)) ||| ((lo.toUInt64 >>> ((63 : Int32).toInt64.toUInt64 &&& Int64.toUInt64 63)).toInt64)), .long lo])) := ⟨_, rfl⟩
        have hP : va_P D vwCl ws2 H := by rw [hws2]; exact hP
        have hD : va_D A ws2 := by rw [hws2]; exact hD
        have hk : ws2[k]? = some (h0, .inr (ciW, [.long ((hi <<< ((1 : Int32).toInt64 &&& 63)) ||| ((lo.toUInt64 >>> ((63 : Int32).toInt64.toUInt64 &&& Int64.toUInt64 63)).toInt64)), .long lo])) := by rw [hws2]; exact sgS hk
        refine lv_aload_n hx hb dX0_divideBy_43 rfl (lv_at hl 1 rfl) ?_
        refine lv_aload_n hx hb dX0_divideBy_44 rfl (lv_at hl 1 rfl) ?_
        refine va_get (D := D) (ci := ciW) (v := .long lo) (C := RX0) (T := TX0) (N := 2) hx hb hts (by decide +kernel) hown hK hP k hk rfl 1 (by decide) (hts (.fieldLink RX0 13 "ExactDesk$Wide" "low" "J") (by decide +kernel)) (fun _ h9 => h9) rfl dX0_divideBy_45 ?_
        refine lv_iconst (v := 1) hx hb dX0_divideBy_48 (by decide) ?_
        refine lv_lshl hx hb dX0_divideBy_49 rfl ?_
        refine va_put (D := D) (ci := ciW) (v := .long (lo <<< ((1 : Int32).toInt64 &&& 63))) (ty := .long) (C := RX0) (T := TX0) (N := 2) hx hb hts (by decide +kernel) tyX0 tyX0_ok nmX0 hown hK hP hD hS k hk rfl 1 (by decide) (hts (.fieldLink RX0 13 "ExactDesk$Wide" "low" "J") (by decide +kernel)) (fun _ h9 => h9) rfl (by decide +kernel) rfl rfl (Nat.le_of_ble_eq_true rfl) dX0_divideBy_50 (fun H locs hP hD hS => ?_)
        obtain ⟨ws3, hws3⟩ : ∃ q_, q_ = ws2.set k (h0, .inr (ciW, [.long ((hi <<< ((1 : Int32).toInt64 &&& 63)) ||| ((lo.toUInt64 >>> ((63 : Int32).toInt64.toUInt64 &&& Int64.toUInt64 63)).toInt64)), .long (lo <<< ((1 : Int32).toInt64 &&& 63))])) := ⟨_, rfl⟩
        have hP : va_P D vwCl ws3 H := by rw [hws3]; exact hP
        have hD : va_D A ws3 := by rw [hws3]; exact hD
        have hk : ws3[k]? = some (h0, .inr (ciW, [.long ((hi <<< ((1 : Int32).toInt64 &&& 63)) ||| ((lo.toUInt64 >>> ((63 : Int32).toInt64.toUInt64 &&& Int64.toUInt64 63)).toInt64)), .long (lo <<< ((1 : Int32).toInt64 &&& 63))])) := by rw [hws3]; exact sgS hk
        refine lv_lload_n hx hb dX0_divideBy_53 rfl (lv_at hl 0 rfl) ?_
        refine lv_lload_n hx hb dX0_divideBy_54 rfl (lv_at hl 2 rfl) ?_
        refine xb_ri (va_runS (As := [.long ((r <<< ((1 : Int32).toInt64 &&& 63)) ||| ((hi.toUInt64 >>> ((63 : Int32).toInt64.toUInt64 &&& Int64.toUInt64 63)).toInt64)), .long d]) (rest := []) ⟨hx, hb, hml, hown, hts⟩ (cW_uless l D ((r <<< ((1 : Int32).toInt64 &&& 63)) ||| ((hi.toUInt64 >>> ((63 : Int32).toInt64.toUInt64 &&& Int64.toUInt64 63)).toInt64)) d) (va_cwS 2 hts gX0_divideBy_X0_unsignedLess rfl rfl rfl (by decide +kernel) ⟨Nat.le_of_ble_eq_true rfl, Nat.le_of_ble_eq_true rfl⟩) (xb_ps rfl hP hK hD) rfl rfl hl.1 rfl (lv_room (Nat.le_of_ble_eq_true rfl)) dX0_divideBy_55 ⟨Nat.le_of_ble_eq_true rfl, Nat.le_of_ble_eq_true rfl⟩) hD hS hA (fun r55 ws4 H locs hws4 hP hD hS => ?_)
        obtain ⟨hr55, rfl⟩ := hws4
        refine lv_if_ne (tgt := 75) hx hb dX0_divideBy_58 (by decide) (fun c58 => ?_) (fun c58 => ?_)
        · have c58 := bz_1 hr55 c58
          refine lv_iinc (v := x5 + 1) (lv' := [(5, .int (x5 + 1)), (3, .long ((r <<< ((1 : Int32).toInt64 &&& 63)) ||| ((hi.toUInt64 >>> ((63 : Int32).toInt64.toUInt64 &&& Int64.toUInt64 63)).toInt64))), (0, .ref h0), (1, .long d)]) hx hb dX0_divideBy_75 hl (k := 3) rfl (by rfl) (by decide) rfl (fun ls hl => ?_)
          refine lv_goto (tgt := 5) hx hb dX0_divideBy_78 (by decide) ?_
          have hi8 : i < 128 := by
            rcases Nat.lt_or_ge i 128 with q | q
            · exact q
            · exact absurd (by rw [ex5]; exact nI_le q (by omega)) c10
          have q1 := dv_words (hi := hi) (lo := lo) (r := r) (D := uN d) hI_lt hd
          have q2 := dv_step (i := i) hi8 hI
          refine ih (i + 1) ((hi <<< ((1 : Int32).toInt64 &&& 63)) ||| ((lo.toUInt64 >>> ((63 : Int32).toInt64.toUInt64 &&& Int64.toUInt64 63)).toInt64)) (lo <<< ((1 : Int32).toInt64 &&& 63)) ((r <<< ((1 : Int32).toInt64 &&& 63)) ||| ((hi.toUInt64 >>> ((63 : Int32).toInt64.toUInt64 &&& Int64.toUInt64 63)).toInt64)) (x5 + 1) ws3 H locs ls (by omega) (by omega) (by rw [ex5]; exact nI_1 i) (by rw [hws3, hws2, hws1, List.set_set, List.set_set]) ?_ hP hD hS (lv_sub hl [2, 3, 1, 0] rfl)
          rw [q1.2, q1.1]
          rw [q1.1] at c58
          exact q2.1 c58
        · have c58 := bz_0 hr55 c58
          refine lv_lload_n hx hb dX0_divideBy_61 rfl (lv_at hl 0 rfl) ?_
          refine lv_lload_n hx hb dX0_divideBy_62 rfl (lv_at hl 2 rfl) ?_
          refine lv_lsub hx hb dX0_divideBy_63 ?_
          refine lv_lstore_n (lv' := [(3, .long (((r <<< ((1 : Int32).toInt64 &&& 63)) ||| ((hi.toUInt64 >>> ((63 : Int32).toInt64.toUInt64 &&& Int64.toUInt64 63)).toInt64)) - d)), (0, .ref h0), (1, .long d), (5, .int x5)]) hx hb dX0_divideBy_64 rfl hl (by decide) rfl (fun ls hl => ?_)
          refine lv_aload_n hx hb dX0_divideBy_65 rfl (lv_at hl 1 rfl) ?_
          refine lv_dup hx hb dX0_divideBy_66 rfl ?_
          refine va_get (D := D) (ci := ciW) (v := .long (lo <<< ((1 : Int32).toInt64 &&& 63))) (C := RX0) (T := TX0) (N := 2) hx hb hts (by decide +kernel) hown hK hP k hk rfl 1 (by decide) (hts (.fieldLink RX0 13 "ExactDesk$Wide" "low" "J") (by decide +kernel)) (fun _ h9 => h9) rfl dX0_divideBy_67 ?_
          refine lv_lconst (v := 1) hx hb dX0_divideBy_70 (by decide) ?_
          refine lv_lor hx hb dX0_divideBy_71 ?_
          refine va_put (D := D) (ci := ciW) (v := .long ((lo <<< ((1 : Int32).toInt64 &&& 63)) ||| 1)) (ty := .long) (C := RX0) (T := TX0) (N := 2) hx hb hts (by decide +kernel) tyX0 tyX0_ok nmX0 hown hK hP hD hS k hk rfl 1 (by decide) (hts (.fieldLink RX0 13 "ExactDesk$Wide" "low" "J") (by decide +kernel)) (fun _ h9 => h9) rfl (by decide +kernel) rfl rfl (Nat.le_of_ble_eq_true rfl) dX0_divideBy_72 (fun H locs hP hD hS => ?_)
          obtain ⟨ws5, hws5⟩ : ∃ q_, q_ = ws3.set k (h0, .inr (ciW, [.long ((hi <<< ((1 : Int32).toInt64 &&& 63)) ||| ((lo.toUInt64 >>> ((63 : Int32).toInt64.toUInt64 &&& Int64.toUInt64 63)).toInt64)), .long ((lo <<< ((1 : Int32).toInt64 &&& 63)) ||| 1)])) := ⟨_, rfl⟩
          have hP : va_P D vwCl ws5 H := by rw [hws5]; exact hP
          have hD : va_D A ws5 := by rw [hws5]; exact hD
          have hk : ws5[k]? = some (h0, .inr (ciW, [.long ((hi <<< ((1 : Int32).toInt64 &&& 63)) ||| ((lo.toUInt64 >>> ((63 : Int32).toInt64.toUInt64 &&& Int64.toUInt64 63)).toInt64)), .long ((lo <<< ((1 : Int32).toInt64 &&& 63)) ||| 1)])) := by rw [hws5]; exact sgS hk
          refine lv_iinc (v := x5 + 1) (lv' := [(5, .int (x5 + 1)), (3, .long (((r <<< ((1 : Int32).toInt64 &&& 63)) ||| ((hi.toUInt64 >>> ((63 : Int32).toInt64.toUInt64 &&& Int64.toUInt64 63)).toInt64)) - d)), (0, .ref h0), (1, .long d)]) hx hb dX0_divideBy_75 hl (k := 3) rfl (by rfl) (by decide) rfl (fun ls hl => ?_)
          refine lv_goto (tgt := 5) hx hb dX0_divideBy_78 (by decide) ?_
          have hi8 : i < 128 := by
            rcases Nat.lt_or_ge i 128 with q | q
            · exact q
            · exact absurd (by rw [ex5]; exact nI_le q (by omega)) c10
          have q1 := dv_words (hi := hi) (lo := lo) (r := r) (D := uN d) hI_lt hd
          have q2 := dv_step (i := i) hi8 hI
          rw [q1.1] at c58
          have q3 := q2.2 (by omega)
          refine ih (i + 1) ((hi <<< ((1 : Int32).toInt64 &&& 63)) ||| ((lo.toUInt64 >>> ((63 : Int32).toInt64.toUInt64 &&& Int64.toUInt64 63)).toInt64)) ((lo <<< ((1 : Int32).toInt64 &&& 63)) ||| 1) (((r <<< ((1 : Int32).toInt64 &&& 63)) ||| ((hi.toUInt64 >>> ((63 : Int32).toInt64.toUInt64 &&& Int64.toUInt64 63)).toInt64)) - d) (x5 + 1) ws5 H locs ls (by omega) (by omega) (by rw [ex5]; exact nI_1 i) (by rw [hws5, hws3, hws2, hws1, List.set_set, List.set_set, List.set_set]) ?_ hP hD hS (lv_sub hl [2, 3, 1, 0] rfl)
          rw [dv_or, ← Nat.add_assoc, q1.2, dv_sub (by rw [q1.1]; omega), q1.1]
          exact q3
  refine lv_lconst (v := 0) hx hb dX0_divideBy_0 (by decide) ?_
  refine lv_lstore_n (lv' := [(3, .long 0), (0, .ref h0), (1, .long d)]) hx hb dX0_divideBy_1 rfl hl (by decide) rfl (fun ls hl => ?_)
  refine lv_iconst (v := 0) hx hb dX0_divideBy_2 (by decide) ?_
  refine lv_istore (lv' := [(5, .int 0), (3, .long 0), (0, .ref h0), (1, .long d)]) hx hb dX0_divideBy_3 hl (by decide) rfl (fun ls hl => ?_)
  exact loop 129 0 (zh z) (zl z) 0 0 ws s.heap [] ls (by omega) (by omega) nI_0.symm (set_same hk).symm (by rw [dv_in h0z hz, un_0]; exact dv_0 hd0 (dv_nlt hz)) hP hD hS (lv_sub hl [2, 3, 1, 0] rfl)
