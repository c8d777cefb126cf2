-- the rows of ExactDesk, three (laid by wip/whole/gen_desk3.py)
set_option maxHeartbeats 4000000 in
set_option maxRecDepth 100000 in
theorem cE_share (l : Launch) (D : va_G) {tys : xT} {ws : va_W} {sz : Nat} {w0 : va_W} {ad : Nat → Nat} {cA : Nat → ClassId} {g : Nat → Option Nat} {rf : Nat → Int64} {tv : Nat → Int} {o : Int} (X : xd w0 ws tys ad cA g rf tv o) (r : Int32) (b cv : Int64) (wy : Int32) : xM l yX1_share wsX1_share ({ frames := 4, cells := 0, slots := 0, locals := 101 }) D tys ws sz [.ref (ad 0), .int r, .long b, .long cv, .int wy] (xQi D tys (fun a w => ∃ o1, xd w0 w tys ad cA g (sp_share (rf, tv) r b cv wy).2.1 (sp_share (rf, tv) r b cv wy).2.2 o1 ∧ a = (sp_share (rf, tv) r b cv wy).1)) 0 0 := by
  refine xb_m (cc := cX1_share) (maxL := 7) (ret := (some .int)) (by decide) rfl (Nat.le_of_ble_eq_true rfl) ?_
  intro p e s m below meth c A ls hx hb hr hml hown hts hlocks hnm hA hP hK hD hS hl
  have hl : lv_has ls 7 [(0, .ref (ad 0)), (1, .int r), (2, .long b), (4, .long cv), (6, .int wy)] := hl
  have hown : s.vm.findClass RX1 = some m.cls := hown
  refine lv_iload_n hx hb dX1_share_0 rfl (lv_at hl 1 rfl) ?_
  refine xb_ri (va_runS (As := [.int r]) (rest := []) ⟨hx, hb, hml, hown, hts⟩ (cE_isR l D r) (va_cwS 1 hts gX1_share_X1_isRegister rfl rfl rfl (by decide +kernel) ⟨Nat.le_of_ble_eq_true rfl, Nat.le_of_ble_eq_true rfl⟩) (xb_ps rfl hP hK hD) rfl rfl hl.1 rfl (lv_room (Nat.le_of_ble_eq_true rfl)) dX1_share_1 ⟨Nat.le_of_ble_eq_true rfl, Nat.le_of_ble_eq_true rfl⟩) hD hS hA (fun r1 ws1 H locs hws1 hP hD hS => ?_)
  obtain ⟨hr1, rfl⟩ := hws1
  refine lv_if_eq (tgt := 15) hx hb dX1_share_4 (by decide) (fun c4 => ?_) (fun c4 => ?_)
  · have c4 := bz_0 hr1 c4
    refine lv_iconst (v := (-1)) hx hb dX1_share_15 (by decide) ?_
    exact xb_ir hx hb hr hlocks hP hK hD hS dX1_share_16 (by rw [sp_share, if_neg (fun q => c4 q.1)]; exact ⟨_, X, rfl⟩)
  · have c4 := bz_1 hr1 c4
    refine lv_iload hx hb dX1_share_7 (lv_at hl 4 rfl) ?_
    refine xb_ri (va_runS (As := [.int wy]) (rest := []) ⟨hx, hb, hml, hown, hts⟩ (cE_isW l D wy) (va_cwS 1 hts gX1_share_X1_isWay rfl rfl rfl (by decide +kernel) ⟨Nat.le_of_ble_eq_true rfl, Nat.le_of_ble_eq_true rfl⟩) (xb_ps rfl hP hK hD) rfl rfl hl.1 rfl (lv_room (Nat.le_of_ble_eq_true rfl)) dX1_share_9 ⟨Nat.le_of_ble_eq_true rfl, Nat.le_of_ble_eq_true rfl⟩) hD hS hA (fun r9 ws2 H locs hws2 hP hD hS => ?_)
    obtain ⟨hr9, rfl⟩ := hws2
    refine lv_if_ne (tgt := 17) hx hb dX1_share_12 (by decide) (fun c12 => ?_) (fun c12 => ?_)
    · have c12 := bz_1 hr9 c12
      refine lv_lload hx hb dX1_share_17 (lv_at hl 3 rfl) ?_
      refine lv_lconst (v := 0) hx hb dX1_share_19 (by decide) ?_
      refine W.lcmp hx hb dX1_share_20 ?_
      refine lv_if_ne (tgt := 26) hx hb dX1_share_21 (by decide) (fun c21 => ?_) (fun c21 => ?_)
      · rw [lg_cmp_eq] at c21
        refine lv_aload_n hx hb dX1_share_26 rfl (lv_at hl 0 rfl) ?_
        refine va_get (D := D) (ci := ciE) (v := .ref (ad 9)) (C := RX1) (T := TX1) (N := 5) hx hb hts (by decide +kernel) hown hK hP 0 (xd_a0 X) rfl 4 (by decide) (hts (.fieldLink RX1 35 "ExactDesk" "outcome" "LExactDesk$Wide;") (by decide +kernel)) (fun _ h9 => h9) rfl dX1_share_27 ?_
        refine lv_aload_n hx hb dX1_share_30 rfl (lv_at hl 0 rfl) ?_
        refine va_get (D := D) (ci := ciE) (v := .ref (ad 1)) (C := RX1) (T := TX1) (N := 5) hx hb hts (by decide +kernel) hown hK hP 0 (xd_a0 X) rfl 0 (by decide) (hts (.fieldLink RX1 9 "ExactDesk" "registers" "[J") (by decide +kernel)) (fun _ h9 => h9) rfl dX1_share_31 ?_
        refine lv_iload_n hx hb dX1_share_34 rfl (lv_at hl 1 rfl) ?_
        refine xd_lld hx hb hK hP X c4 dX1_share_35 ?_
        refine lv_lload_n hx hb dX1_share_36 rfl (lv_at hl 2 rfl) ?_
        refine xb_rv (va_runV (As := [.long (rf r.toNatClampNeg), .long b]) (rest := []) ⟨hx, hb, hml, hown, hts⟩ (cW_prod l D (xd_a9 X) (rf r.toNatClampNeg) b) (cwV 2 hts gX1_share_X0_becomeProduct rfl rfl rfl (by decide +kernel) ⟨Nat.le_of_ble_eq_true rfl, Nat.le_of_ble_eq_true rfl⟩) (xb_pv hP hK hD rfl rfl (xd_a9 X)) rfl rfl hl.1 rfl (lv_room (Nat.le_of_ble_eq_true rfl)) dX1_share_37 ⟨Nat.le_of_ble_eq_true rfl, Nat.le_of_ble_eq_true rfl⟩) hD hS hA (fun ws3 H locs hws3 hP hD hS => ?_)
        have X := xd_setO X hws3
        refine lv_aload_n hx hb dX1_share_40 rfl (lv_at hl 0 rfl) ?_
        refine lv_lload hx hb dX1_share_41 (lv_at hl 3 rfl) ?_
        refine lv_iload hx hb dX1_share_43 (lv_at hl 4 rfl) ?_
        refine xb_rv (va_runV (As := [.long cv, .int wy]) (rest := []) ⟨hx, hb, hml, hown, hts⟩ (cE_dO l D X cv wy (mul_b _ _).1 (mul_b _ _).2 c21 c12) (cwV 2 hts gX1_share_X1_divideOutcome rfl rfl rfl (by decide +kernel) ⟨Nat.le_of_ble_eq_true rfl, Nat.le_of_ble_eq_true rfl⟩) (xb_pv hP hK hD rfl rfl (xd_a0 X)) rfl rfl hl.1 rfl (lv_room (Nat.le_of_ble_eq_true rfl)) dX1_share_45 ⟨Nat.le_of_ble_eq_true rfl, Nat.le_of_ble_eq_true rfl⟩) hD hS hA (fun ws4 H locs hws4 hP hD hS => ?_)
        have X := hws4
        refine lv_aload_n hx hb dX1_share_48 rfl (lv_at hl 0 rfl) ?_
        refine lv_iload_n hx hb dX1_share_49 rfl (lv_at hl 1 rfl) ?_
        refine xb_ri (va_runV (As := [.int r]) (rest := []) ⟨hx, hb, hml, hown, hts⟩ (cE_kR l D X (rq_b (mul_b _ _).1 (mul_b _ _).2) c4) (cwV 1 hts gX1_share_X1_keepInRegister rfl rfl rfl (by decide +kernel) ⟨Nat.le_of_ble_eq_true rfl, Nat.le_of_ble_eq_true rfl⟩) (xb_pv hP hK hD rfl rfl (xd_a0 X)) rfl rfl hl.1 rfl (lv_room (Nat.le_of_ble_eq_true rfl)) dX1_share_50 ⟨Nat.le_of_ble_eq_true rfl, Nat.le_of_ble_eq_true rfl⟩) hD hS hA (fun r50 ws5 H locs hws5 hP hD hS => ?_)
        exact xb_ir hx hb hr hlocks hP hK hD hS dX1_share_53 (by rw [sp_share, if_pos ⟨c4, c12⟩, if_neg c21]; exact ⟨_, hws5.1, hws5.2⟩)
      · rw [lg_cmp_eq] at c21
        refine lv_iconst (v := 3) hx hb dX1_share_24 (by decide) ?_
        exact xb_ir hx hb hr hlocks hP hK hD hS dX1_share_25 (by rw [sp_share, if_pos ⟨c4, c12⟩, if_pos c21]; exact ⟨_, X, rfl⟩)
    · have c12 := bz_0 hr9 c12
      refine lv_iconst (v := (-1)) hx hb dX1_share_15 (by decide) ?_
      exact xb_ir hx hb hr hlocks hP hK hD hS dX1_share_16 (by rw [sp_share, if_neg (fun q => c12 q.2)]; exact ⟨_, X, rfl⟩)
set_option maxHeartbeats 4000000 in
set_option maxRecDepth 100000 in
theorem cE_enter (l : Launch) (D : va_G) {tys : xT} {ws : va_W} {sz : Nat} {w0 : va_W} {ad : Nat → Nat} {cA : Nat → ClassId} {g : Nat → Option Nat} {rf : Nat → Int64} {tv : Nat → Int} {o : Int} (X : xd w0 ws tys ad cA g rf tv o) (t r : Int32) (v : Int64) : xM l yX1_enter wsX1_enter ({ frames := 3, cells := 0, slots := 0, locals := 72 }) D tys ws sz [.ref (ad 0), .int t, .int r, .long v] (xQi D tys (fun a w => ∃ o1, xd w0 w tys ad cA g (sp_enter (rf, tv) t r v).2.1 (sp_enter (rf, tv) t r v).2.2 o1 ∧ a = (sp_enter (rf, tv) t r v).1)) 0 0 := by
  refine xb_m (cc := cX1_enter) (maxL := 5) (ret := (some .int)) (by decide) rfl (Nat.le_of_ble_eq_true rfl) ?_
  intro p e s m below meth c A ls hx hb hr hml hown hts hlocks hnm hA hP hK hD hS hl
  have hl : lv_has ls 5 [(0, .ref (ad 0)), (1, .int t), (2, .int r), (3, .long v)] := hl
  have hown : s.vm.findClass RX1 = some m.cls := hown
  refine lv_iload_n hx hb dX1_enter_0 rfl (lv_at hl 1 rfl) ?_
  refine xb_ri (va_runS (As := [.int t]) (rest := []) ⟨hx, hb, hml, hown, hts⟩ (cE_isT l D t) (va_cwS 1 hts gX1_enter_X1_isTally rfl rfl rfl (by decide +kernel) ⟨Nat.le_of_ble_eq_true rfl, Nat.le_of_ble_eq_true rfl⟩) (xb_ps rfl hP hK hD) rfl rfl hl.1 rfl (lv_room (Nat.le_of_ble_eq_true rfl)) dX1_enter_1 ⟨Nat.le_of_ble_eq_true rfl, Nat.le_of_ble_eq_true rfl⟩) hD hS hA (fun r1 ws1 H locs hws1 hP hD hS => ?_)
  obtain ⟨hr1, rfl⟩ := hws1
  refine lv_if_eq (tgt := 14) hx hb dX1_enter_4 (by decide) (fun c4 => ?_) (fun c4 => ?_)
  · have c4 := bz_0 hr1 c4
    refine lv_iconst (v := (-1)) hx hb dX1_enter_14 (by decide) ?_
    exact xb_ir hx hb hr hlocks hP hK hD hS dX1_enter_15 (by rw [sp_enter, if_neg (fun q => c4 q.1)]; exact ⟨_, X, rfl⟩)
  · have c4 := bz_1 hr1 c4
    refine lv_iload_n hx hb dX1_enter_7 rfl (lv_at hl 2 rfl) ?_
    refine xb_ri (va_runS (As := [.int r]) (rest := []) ⟨hx, hb, hml, hown, hts⟩ (cE_isR l D r) (va_cwS 1 hts gX1_enter_X1_isRegister rfl rfl rfl (by decide +kernel) ⟨Nat.le_of_ble_eq_true rfl, Nat.le_of_ble_eq_true rfl⟩) (xb_ps rfl hP hK hD) rfl rfl hl.1 rfl (lv_room (Nat.le_of_ble_eq_true rfl)) dX1_enter_8 ⟨Nat.le_of_ble_eq_true rfl, Nat.le_of_ble_eq_true rfl⟩) hD hS hA (fun r8 ws2 H locs hws2 hP hD hS => ?_)
    obtain ⟨hr8, rfl⟩ := hws2
    refine lv_if_ne (tgt := 16) hx hb dX1_enter_11 (by decide) (fun c11 => ?_) (fun c11 => ?_)
    · have c11 := bz_1 hr8 c11
      refine lv_aload_n hx hb dX1_enter_16 rfl (lv_at hl 0 rfl) ?_
      refine va_get (D := D) (ci := ciE) (v := .ref (ad 9)) (C := RX1) (T := TX1) (N := 5) hx hb hts (by decide +kernel) hown hK hP 0 (xd_a0 X) rfl 4 (by decide) (hts (.fieldLink RX1 35 "ExactDesk" "outcome" "LExactDesk$Wide;") (by decide +kernel)) (fun _ h9 => h9) rfl dX1_enter_17 ?_
      refine lv_aload_n hx hb dX1_enter_20 rfl (lv_at hl 0 rfl) ?_
      refine va_get (D := D) (ci := ciE) (v := .ref (ad 1)) (C := RX1) (T := TX1) (N := 5) hx hb hts (by decide +kernel) hown hK hP 0 (xd_a0 X) rfl 0 (by decide) (hts (.fieldLink RX1 9 "ExactDesk" "registers" "[J") (by decide +kernel)) (fun _ h9 => h9) rfl dX1_enter_21 ?_
      refine lv_iload_n hx hb dX1_enter_24 rfl (lv_at hl 2 rfl) ?_
      refine xd_lld hx hb hK hP X c11 dX1_enter_25 ?_
      refine lv_lload_n hx hb dX1_enter_26 rfl (lv_at hl 3 rfl) ?_
      refine xb_rv (va_runV (As := [.long (rf r.toNatClampNeg), .long v]) (rest := []) ⟨hx, hb, hml, hown, hts⟩ (cW_prod l D (xd_a9 X) (rf r.toNatClampNeg) v) (cwV 2 hts gX1_enter_X0_becomeProduct rfl rfl rfl (by decide +kernel) ⟨Nat.le_of_ble_eq_true rfl, Nat.le_of_ble_eq_true rfl⟩) (xb_pv hP hK hD rfl rfl (xd_a9 X)) rfl rfl hl.1 rfl (lv_room (Nat.le_of_ble_eq_true rfl)) dX1_enter_27 ⟨Nat.le_of_ble_eq_true rfl, Nat.le_of_ble_eq_true rfl⟩) hD hS hA (fun ws3 H locs hws3 hP hD hS => ?_)
      have X := xd_setO X hws3
      refine lv_aload_n hx hb dX1_enter_30 rfl (lv_at hl 0 rfl) ?_
      refine va_get (D := D) (ci := ciE) (v := .ref (ad 9)) (C := RX1) (T := TX1) (N := 5) hx hb hts (by decide +kernel) hown hK hP 0 (xd_a0 X) rfl 4 (by decide) (hts (.fieldLink RX1 35 "ExactDesk" "outcome" "LExactDesk$Wide;") (by decide +kernel)) (fun _ h9 => h9) rfl dX1_enter_31 ?_
      refine lv_aload_n hx hb dX1_enter_34 rfl (lv_at hl 0 rfl) ?_
      refine va_get (D := D) (ci := ciE) (v := .ref (ad 2)) (C := RX1) (T := TX1) (N := 5) hx hb hts (by decide +kernel) hown hK hP 0 (xd_a0 X) rfl 1 (by decide) (hts (.fieldLink RX1 15 "ExactDesk" "tallies" "[LExactDesk$Wide;") (by decide +kernel)) (fun _ h9 => h9) rfl dX1_enter_35 ?_
      refine lv_iload_n hx hb dX1_enter_38 rfl (lv_at hl 1 rfl) ?_
      refine xd_ald hx hb hK hP X c4 dX1_enter_39 ?_
      refine xb_rv (va_runV (As := [.ref (ad (3 + t.toNatClampNeg))]) (rest := []) ⟨hx, hb, hml, hown, hts⟩ (cW_incW l D (xd_a9 X) (xd_tl X (j4 c4)) (zr_m _ _) (xd_zr X (j4 c4)) (zr_e (xd_lo X (j4 c4)) (xd_hi X (j4 c4)))) (cwV 1 hts gX1_enter_X0_increase_ rfl rfl rfl (by decide +kernel) ⟨Nat.le_of_ble_eq_true rfl, Nat.le_of_ble_eq_true rfl⟩) (xb_pv hP hK hD rfl rfl (xd_a9 X)) rfl rfl hl.1 rfl (lv_room (Nat.le_of_ble_eq_true rfl)) dX1_enter_40 ⟨Nat.le_of_ble_eq_true rfl, Nat.le_of_ble_eq_true rfl⟩) hD hS hA (fun ws4 H locs hws4 hP hD hS => ?_)
      have X := xd_setO X hws4
      refine lv_aload_n hx hb dX1_enter_43 rfl (lv_at hl 0 rfl) ?_
      refine lv_iload_n hx hb dX1_enter_44 rfl (lv_at hl 1 rfl) ?_
      refine xb_ri (va_runV (As := [.int t]) (rest := []) ⟨hx, hb, hml, hown, hts⟩ (cE_kT l D X (zr_e (xd_lo X (j4 c4)) (xd_hi X (j4 c4))) c4) (cwV 1 hts gX1_enter_X1_keepInTally rfl rfl rfl (by decide +kernel) ⟨Nat.le_of_ble_eq_true rfl, Nat.le_of_ble_eq_true rfl⟩) (xb_pv hP hK hD rfl rfl (xd_a0 X)) rfl rfl hl.1 rfl (lv_room (Nat.le_of_ble_eq_true rfl)) dX1_enter_45 ⟨Nat.le_of_ble_eq_true rfl, Nat.le_of_ble_eq_true rfl⟩) hD hS hA (fun r45 ws5 H locs hws5 hP hD hS => ?_)
      exact xb_ir hx hb hr hlocks hP hK hD hS dX1_enter_48 (by rw [sp_enter, if_pos ⟨c4, c11⟩]; exact ⟨_, hws5.1, hws5.2⟩)
    · have c11 := bz_0 hr8 c11
      refine lv_iconst (v := (-1)) hx hb dX1_enter_14 (by decide) ?_
      exact xb_ir hx hb hr hlocks hP hK hD hS dX1_enter_15 (by rw [sp_enter, if_neg (fun q => c11 q.2)]; exact ⟨_, X, rfl⟩)
set_option maxHeartbeats 4000000 in
set_option maxRecDepth 100000 in
theorem cE_merge (l : Launch) (D : va_G) {tys : xT} {ws : va_W} {sz : Nat} {w0 : va_W} {ad : Nat → Nat} {cA : Nat → ClassId} {g : Nat → Option Nat} {rf : Nat → Int64} {tv : Nat → Int} {o : Int} (X : xd w0 ws tys ad cA g rf tv o) (t u : Int32) : xM l yX1_merge wsX1_merge ({ frames := 3, cells := 0, slots := 0, locals := 72 }) D tys ws sz [.ref (ad 0), .int t, .int u] (xQi D tys (fun a w => ∃ o1, xd w0 w tys ad cA g (sp_merge (rf, tv) t u).2.1 (sp_merge (rf, tv) t u).2.2 o1 ∧ a = (sp_merge (rf, tv) t u).1)) 0 0 := by
  refine xb_m (cc := cX1_merge) (maxL := 3) (ret := (some .int)) (by decide) rfl (Nat.le_of_ble_eq_true rfl) ?_
  intro p e s m below meth c A ls hx hb hr hml hown hts hlocks hnm hA hP hK hD hS hl
  have hl : lv_has ls 3 [(0, .ref (ad 0)), (1, .int t), (2, .int u)] := hl
  have hown : s.vm.findClass RX1 = some m.cls := hown
  refine lv_iload_n hx hb dX1_merge_0 rfl (lv_at hl 1 rfl) ?_
  refine xb_ri (va_runS (As := [.int t]) (rest := []) ⟨hx, hb, hml, hown, hts⟩ (cE_isT l D t) (va_cwS 1 hts gX1_merge_X1_isTally rfl rfl rfl (by decide +kernel) ⟨Nat.le_of_ble_eq_true rfl, Nat.le_of_ble_eq_true rfl⟩) (xb_ps rfl hP hK hD) rfl rfl hl.1 rfl (lv_room (Nat.le_of_ble_eq_true rfl)) dX1_merge_1 ⟨Nat.le_of_ble_eq_true rfl, Nat.le_of_ble_eq_true rfl⟩) hD hS hA (fun r1 ws1 H locs hws1 hP hD hS => ?_)
  obtain ⟨hr1, rfl⟩ := hws1
  refine lv_if_eq (tgt := 14) hx hb dX1_merge_4 (by decide) (fun c4 => ?_) (fun c4 => ?_)
  · have c4 := bz_0 hr1 c4
    refine lv_iconst (v := (-1)) hx hb dX1_merge_14 (by decide) ?_
    exact xb_ir hx hb hr hlocks hP hK hD hS dX1_merge_15 (by rw [sp_merge, if_neg (fun q => c4 q.1)]; exact ⟨_, X, rfl⟩)
  · have c4 := bz_1 hr1 c4
    refine lv_iload_n hx hb dX1_merge_7 rfl (lv_at hl 2 rfl) ?_
    refine xb_ri (va_runS (As := [.int u]) (rest := []) ⟨hx, hb, hml, hown, hts⟩ (cE_isT l D u) (va_cwS 1 hts gX1_merge_X1_isTally rfl rfl rfl (by decide +kernel) ⟨Nat.le_of_ble_eq_true rfl, Nat.le_of_ble_eq_true rfl⟩) (xb_ps rfl hP hK hD) rfl rfl hl.1 rfl (lv_room (Nat.le_of_ble_eq_true rfl)) dX1_merge_8 ⟨Nat.le_of_ble_eq_true rfl, Nat.le_of_ble_eq_true rfl⟩) hD hS hA (fun r8 ws2 H locs hws2 hP hD hS => ?_)
    obtain ⟨hr8, rfl⟩ := hws2
    refine lv_if_ne (tgt := 16) hx hb dX1_merge_11 (by decide) (fun c11 => ?_) (fun c11 => ?_)
    · have c11 := bz_1 hr8 c11
      refine lv_aload_n hx hb dX1_merge_16 rfl (lv_at hl 0 rfl) ?_
      refine va_get (D := D) (ci := ciE) (v := .ref (ad 9)) (C := RX1) (T := TX1) (N := 5) hx hb hts (by decide +kernel) hown hK hP 0 (xd_a0 X) rfl 4 (by decide) (hts (.fieldLink RX1 35 "ExactDesk" "outcome" "LExactDesk$Wide;") (by decide +kernel)) (fun _ h9 => h9) rfl dX1_merge_17 ?_
      refine lv_aload_n hx hb dX1_merge_20 rfl (lv_at hl 0 rfl) ?_
      refine va_get (D := D) (ci := ciE) (v := .ref (ad 2)) (C := RX1) (T := TX1) (N := 5) hx hb hts (by decide +kernel) hown hK hP 0 (xd_a0 X) rfl 1 (by decide) (hts (.fieldLink RX1 15 "ExactDesk" "tallies" "[LExactDesk$Wide;") (by decide +kernel)) (fun _ h9 => h9) rfl dX1_merge_21 ?_
      refine lv_iload_n hx hb dX1_merge_24 rfl (lv_at hl 1 rfl) ?_
      refine xd_ald hx hb hK hP X c4 dX1_merge_25 ?_
      refine xb_rv (va_runV (As := [.ref (ad (3 + t.toNatClampNeg))]) (rest := []) ⟨hx, hb, hml, hown, hts⟩ (cW_becomeW l D (xd_a9 X) (xd_tl X (j4 c4)) (by have q := (j4 c4); omega)) (cwV 1 hts gX1_merge_X0_become_ rfl rfl rfl (by decide +kernel) ⟨Nat.le_of_ble_eq_true rfl, Nat.le_of_ble_eq_true rfl⟩) (xb_pv hP hK hD rfl rfl (xd_a9 X)) rfl rfl hl.1 rfl (lv_room (Nat.le_of_ble_eq_true rfl)) dX1_merge_26 ⟨Nat.le_of_ble_eq_true rfl, Nat.le_of_ble_eq_true rfl⟩) hD hS hA (fun ws3 H locs hws3 hP hD hS => ?_)
      have X := xd_setO X hws3
      refine lv_aload_n hx hb dX1_merge_29 rfl (lv_at hl 0 rfl) ?_
      refine va_get (D := D) (ci := ciE) (v := .ref (ad 9)) (C := RX1) (T := TX1) (N := 5) hx hb hts (by decide +kernel) hown hK hP 0 (xd_a0 X) rfl 4 (by decide) (hts (.fieldLink RX1 35 "ExactDesk" "outcome" "LExactDesk$Wide;") (by decide +kernel)) (fun _ h9 => h9) rfl dX1_merge_30 ?_
      refine lv_aload_n hx hb dX1_merge_33 rfl (lv_at hl 0 rfl) ?_
      refine va_get (D := D) (ci := ciE) (v := .ref (ad 2)) (C := RX1) (T := TX1) (N := 5) hx hb hts (by decide +kernel) hown hK hP 0 (xd_a0 X) rfl 1 (by decide) (hts (.fieldLink RX1 15 "ExactDesk" "tallies" "[LExactDesk$Wide;") (by decide +kernel)) (fun _ h9 => h9) rfl dX1_merge_34 ?_
      refine lv_iload_n hx hb dX1_merge_37 rfl (lv_at hl 2 rfl) ?_
      refine xd_ald hx hb hK hP X c11 dX1_merge_38 ?_
      refine xb_rv (va_runV (As := [.ref (ad (3 + u.toNatClampNeg))]) (rest := []) ⟨hx, hb, hml, hown, hts⟩ (cW_incW l D (xd_a9 X) (xd_tl X (j4 c11)) (xd_zr X (j4 c4)) (xd_zr X (j4 c11)) (zr_t (xd_lo X (j4 c4)) (xd_hi X (j4 c4)) (xd_lo X (j4 c11)) (xd_hi X (j4 c11)))) (cwV 1 hts gX1_merge_X0_increase_ rfl rfl rfl (by decide +kernel) ⟨Nat.le_of_ble_eq_true rfl, Nat.le_of_ble_eq_true rfl⟩) (xb_pv hP hK hD rfl rfl (xd_a9 X)) rfl rfl hl.1 rfl (lv_room (Nat.le_of_ble_eq_true rfl)) dX1_merge_39 ⟨Nat.le_of_ble_eq_true rfl, Nat.le_of_ble_eq_true rfl⟩) hD hS hA (fun ws4 H locs hws4 hP hD hS => ?_)
      have X := xd_setO X hws4
      refine lv_aload_n hx hb dX1_merge_42 rfl (lv_at hl 0 rfl) ?_
      refine lv_iload_n hx hb dX1_merge_43 rfl (lv_at hl 1 rfl) ?_
      refine xb_ri (va_runV (As := [.int t]) (rest := []) ⟨hx, hb, hml, hown, hts⟩ (cE_kT l D X (zr_t (xd_lo X (j4 c4)) (xd_hi X (j4 c4)) (xd_lo X (j4 c11)) (xd_hi X (j4 c11))) c4) (cwV 1 hts gX1_merge_X1_keepInTally rfl rfl rfl (by decide +kernel) ⟨Nat.le_of_ble_eq_true rfl, Nat.le_of_ble_eq_true rfl⟩) (xb_pv hP hK hD rfl rfl (xd_a0 X)) rfl rfl hl.1 rfl (lv_room (Nat.le_of_ble_eq_true rfl)) dX1_merge_44 ⟨Nat.le_of_ble_eq_true rfl, Nat.le_of_ble_eq_true rfl⟩) hD hS hA (fun r44 ws5 H locs hws5 hP hD hS => ?_)
      exact xb_ir hx hb hr hlocks hP hK hD hS dX1_merge_47 (by rw [sp_merge, if_pos ⟨c4, c11⟩]; exact ⟨_, hws5.1, hws5.2⟩)
    · have c11 := bz_0 hr8 c11
      refine lv_iconst (v := (-1)) hx hb dX1_merge_14 (by decide) ?_
      exact xb_ir hx hb hr hlocks hP hK hD hS dX1_merge_15 (by rw [sp_merge, if_neg (fun q => c11 q.2)]; exact ⟨_, X, rfl⟩)
set_option maxHeartbeats 4000000 in
set_option maxRecDepth 100000 in
theorem cE_take (l : Launch) (D : va_G) {tys : xT} {ws : va_W} {sz : Nat} {w0 : va_W} {ad : Nat → Nat} {cA : Nat → ClassId} {g : Nat → Option Nat} {rf : Nat → Int64} {tv : Nat → Int} {o : Int} (X : xd w0 ws tys ad cA g rf tv o) (t r : Int32) : xM l yX1_take wsX1_take ({ frames := 2, cells := 0, slots := 0, locals := 41 }) D tys ws sz [.ref (ad 0), .int t, .int r] (xQi D tys (fun a w => ∃ o1, xd w0 w tys ad cA g (sp_take (rf, tv) t r).2.1 (sp_take (rf, tv) t r).2.2 o1 ∧ a = (sp_take (rf, tv) t r).1)) 0 0 := by
  refine xb_m (cc := cX1_take) (maxL := 3) (ret := (some .int)) (by decide) rfl (Nat.le_of_ble_eq_true rfl) ?_
  intro p e s m below meth c A ls hx hb hr hml hown hts hlocks hnm hA hP hK hD hS hl
  have hl : lv_has ls 3 [(0, .ref (ad 0)), (1, .int t), (2, .int r)] := hl
  have hown : s.vm.findClass RX1 = some m.cls := hown
  refine lv_iload_n hx hb dX1_take_0 rfl (lv_at hl 1 rfl) ?_
  refine xb_ri (va_runS (As := [.int t]) (rest := []) ⟨hx, hb, hml, hown, hts⟩ (cE_isT l D t) (va_cwS 1 hts gX1_take_X1_isTally rfl rfl rfl (by decide +kernel) ⟨Nat.le_of_ble_eq_true rfl, Nat.le_of_ble_eq_true rfl⟩) (xb_ps rfl hP hK hD) rfl rfl hl.1 rfl (lv_room (Nat.le_of_ble_eq_true rfl)) dX1_take_1 ⟨Nat.le_of_ble_eq_true rfl, Nat.le_of_ble_eq_true rfl⟩) hD hS hA (fun r1 ws1 H locs hws1 hP hD hS => ?_)
  obtain ⟨hr1, rfl⟩ := hws1
  refine lv_if_eq (tgt := 14) hx hb dX1_take_4 (by decide) (fun c4 => ?_) (fun c4 => ?_)
  · have c4 := bz_0 hr1 c4
    refine lv_iconst (v := (-1)) hx hb dX1_take_14 (by decide) ?_
    exact xb_ir hx hb hr hlocks hP hK hD hS dX1_take_15 (by rw [sp_take, if_neg (fun q => c4 q.1)]; exact ⟨_, X, rfl⟩)
  · have c4 := bz_1 hr1 c4
    refine lv_iload_n hx hb dX1_take_7 rfl (lv_at hl 2 rfl) ?_
    refine xb_ri (va_runS (As := [.int r]) (rest := []) ⟨hx, hb, hml, hown, hts⟩ (cE_isR l D r) (va_cwS 1 hts gX1_take_X1_isRegister rfl rfl rfl (by decide +kernel) ⟨Nat.le_of_ble_eq_true rfl, Nat.le_of_ble_eq_true rfl⟩) (xb_ps rfl hP hK hD) rfl rfl hl.1 rfl (lv_room (Nat.le_of_ble_eq_true rfl)) dX1_take_8 ⟨Nat.le_of_ble_eq_true rfl, Nat.le_of_ble_eq_true rfl⟩) hD hS hA (fun r8 ws2 H locs hws2 hP hD hS => ?_)
    obtain ⟨hr8, rfl⟩ := hws2
    refine lv_if_ne (tgt := 16) hx hb dX1_take_11 (by decide) (fun c11 => ?_) (fun c11 => ?_)
    · have c11 := bz_1 hr8 c11
      refine lv_aload_n hx hb dX1_take_16 rfl (lv_at hl 0 rfl) ?_
      refine va_get (D := D) (ci := ciE) (v := .ref (ad 9)) (C := RX1) (T := TX1) (N := 5) hx hb hts (by decide +kernel) hown hK hP 0 (xd_a0 X) rfl 4 (by decide) (hts (.fieldLink RX1 35 "ExactDesk" "outcome" "LExactDesk$Wide;") (by decide +kernel)) (fun _ h9 => h9) rfl dX1_take_17 ?_
      refine lv_aload_n hx hb dX1_take_20 rfl (lv_at hl 0 rfl) ?_
      refine va_get (D := D) (ci := ciE) (v := .ref (ad 2)) (C := RX1) (T := TX1) (N := 5) hx hb hts (by decide +kernel) hown hK hP 0 (xd_a0 X) rfl 1 (by decide) (hts (.fieldLink RX1 15 "ExactDesk" "tallies" "[LExactDesk$Wide;") (by decide +kernel)) (fun _ h9 => h9) rfl dX1_take_21 ?_
      refine lv_iload_n hx hb dX1_take_24 rfl (lv_at hl 1 rfl) ?_
      refine xd_ald hx hb hK hP X c4 dX1_take_25 ?_
      refine xb_rv (va_runV (As := [.ref (ad (3 + t.toNatClampNeg))]) (rest := []) ⟨hx, hb, hml, hown, hts⟩ (cW_becomeW l D (xd_a9 X) (xd_tl X (j4 c4)) (by have q := (j4 c4); omega)) (cwV 1 hts gX1_take_X0_become_ rfl rfl rfl (by decide +kernel) ⟨Nat.le_of_ble_eq_true rfl, Nat.le_of_ble_eq_true rfl⟩) (xb_pv hP hK hD rfl rfl (xd_a9 X)) rfl rfl hl.1 rfl (lv_room (Nat.le_of_ble_eq_true rfl)) dX1_take_26 ⟨Nat.le_of_ble_eq_true rfl, Nat.le_of_ble_eq_true rfl⟩) hD hS hA (fun ws3 H locs hws3 hP hD hS => ?_)
      have X := xd_setO X hws3
      refine lv_aload_n hx hb dX1_take_29 rfl (lv_at hl 0 rfl) ?_
      refine lv_iload_n hx hb dX1_take_30 rfl (lv_at hl 2 rfl) ?_
      refine xb_ri (va_runV (As := [.int r]) (rest := []) ⟨hx, hb, hml, hown, hts⟩ (cE_kR l D X (xd_zr X (j4 c4)) c11) (cwV 1 hts gX1_take_X1_keepInRegister rfl rfl rfl (by decide +kernel) ⟨Nat.le_of_ble_eq_true rfl, Nat.le_of_ble_eq_true rfl⟩) (xb_pv hP hK hD rfl rfl (xd_a0 X)) rfl rfl hl.1 rfl (lv_room (Nat.le_of_ble_eq_true rfl)) dX1_take_31 ⟨Nat.le_of_ble_eq_true rfl, Nat.le_of_ble_eq_true rfl⟩) hD hS hA (fun r31 ws4 H locs hws4 hP hD hS => ?_)
      exact xb_ir hx hb hr hlocks hP hK hD hS dX1_take_34 (by rw [sp_take, if_pos ⟨c4, c11⟩]; exact ⟨_, hws4.1, hws4.2⟩)
    · have c11 := bz_0 hr8 c11
      refine lv_iconst (v := (-1)) hx hb dX1_take_14 (by decide) ?_
      exact xb_ir hx hb hr hlocks hP hK hD hS dX1_take_15 (by rw [sp_take, if_neg (fun q => c11 q.2)]; exact ⟨_, X, rfl⟩)
set_option maxHeartbeats 4000000 in
set_option maxRecDepth 100000 in
theorem cE_clear (l : Launch) (D : va_G) {tys : xT} {ws : va_W} {sz : Nat} {w0 : va_W} {ad : Nat → Nat} {cA : Nat → ClassId} {g : Nat → Option Nat} {rf : Nat → Int64} {tv : Nat → Int} {o : Int} (X : xd w0 ws tys ad cA g rf tv o) (t : Int32) : xM l yX1_clear wsX1_clear ({ frames := 1, cells := 0, slots := 0, locals := 22 }) D tys ws sz [.ref (ad 0), .int t] (xQi D tys (fun a w => ∃ o1, xd w0 w tys ad cA g (sp_clear (rf, tv) t).2.1 (sp_clear (rf, tv) t).2.2 o1 ∧ a = (sp_clear (rf, tv) t).1)) 0 0 := by
  refine xb_m (cc := cX1_clear) (maxL := 2) (ret := (some .boolean)) (by decide) rfl (Nat.le_of_ble_eq_true rfl) ?_
  intro p e s m below meth c A ls hx hb hr hml hown hts hlocks hnm hA hP hK hD hS hl
  have hl : lv_has ls 2 [(0, .ref (ad 0)), (1, .int t)] := hl
  have hown : s.vm.findClass RX1 = some m.cls := hown
  refine lv_iload_n hx hb dX1_clear_0 rfl (lv_at hl 1 rfl) ?_
  refine xb_ri (va_runS (As := [.int t]) (rest := []) ⟨hx, hb, hml, hown, hts⟩ (cE_isT l D t) (va_cwS 1 hts gX1_clear_X1_isTally rfl rfl rfl (by decide +kernel) ⟨Nat.le_of_ble_eq_true rfl, Nat.le_of_ble_eq_true rfl⟩) (xb_ps rfl hP hK hD) rfl rfl hl.1 rfl (lv_room (Nat.le_of_ble_eq_true rfl)) dX1_clear_1 ⟨Nat.le_of_ble_eq_true rfl, Nat.le_of_ble_eq_true rfl⟩) hD hS hA (fun r1 ws1 H locs hws1 hP hD hS => ?_)
  obtain ⟨hr1, rfl⟩ := hws1
  refine lv_if_ne (tgt := 9) hx hb dX1_clear_4 (by decide) (fun c4 => ?_) (fun c4 => ?_)
  · have c4 := bz_1 hr1 c4
    refine lv_aload_n hx hb dX1_clear_9 rfl (lv_at hl 0 rfl) ?_
    refine va_get (D := D) (ci := ciE) (v := .ref (ad 2)) (C := RX1) (T := TX1) (N := 5) hx hb hts (by decide +kernel) hown hK hP 0 (xd_a0 X) rfl 1 (by decide) (hts (.fieldLink RX1 15 "ExactDesk" "tallies" "[LExactDesk$Wide;") (by decide +kernel)) (fun _ h9 => h9) rfl dX1_clear_10 ?_
    refine lv_iload_n hx hb dX1_clear_13 rfl (lv_at hl 1 rfl) ?_
    refine xd_ald hx hb hK hP X c4 dX1_clear_14 ?_
    refine lv_lconst (v := 0) hx hb dX1_clear_15 (by decide) ?_
    refine xb_rv (va_runV (As := [.long 0]) (rest := []) ⟨hx, hb, hml, hown, hts⟩ (cW_becomeL l D (xd_tl X (j4 c4)) 0) (cwV 1 hts gX1_clear_X0_become rfl rfl rfl (by decide +kernel) ⟨Nat.le_of_ble_eq_true rfl, Nat.le_of_ble_eq_true rfl⟩) (xb_pv hP hK hD rfl rfl (xd_tl X (j4 c4))) rfl rfl hl.1 rfl (lv_room (Nat.le_of_ble_eq_true rfl)) dX1_clear_16 ⟨Nat.le_of_ble_eq_true rfl, Nat.le_of_ble_eq_true rfl⟩) hD hS hA (fun ws2 H locs hws2 hP hD hS => ?_)
    have X := xd_setT X (j4 c4) (by decide) (by decide) hws2
    refine lv_iconst (v := 1) hx hb dX1_clear_19 (by decide) ?_
    exact xb_zr hx hb hr hlocks hP hK hD hS dX1_clear_20 rfl (by rw [sp_clear, if_pos c4]; have e : (0 : Int64).toInt = 0 := (by decide); rw [e] at X; exact ⟨_, X, rfl⟩)
  · have c4 := bz_0 hr1 c4
    refine lv_iconst (v := 0) hx hb dX1_clear_7 (by decide) ?_
    exact xb_zr hx hb hr hlocks hP hK hD hS dX1_clear_8 rfl (by rw [sp_clear, if_neg c4]; exact ⟨_, X, rfl⟩)
set_option maxHeartbeats 4000000 in
set_option maxRecDepth 100000 in
theorem cE_cmp (l : Launch) (D : va_G) {tys : xT} {ws : va_W} {sz : Nat} {w0 : va_W} {ad : Nat → Nat} {cA : Nat → ClassId} {g : Nat → Option Nat} {rf : Nat → Int64} {tv : Nat → Int} {o : Int} (X : xd w0 ws tys ad cA g rf tv o) (t u : Int32) : xM l yX1_compare wsX1_compare ({ frames := 2, cells := 0, slots := 0, locals := 44 }) D tys ws sz [.ref (ad 0), .int t, .int u] (xQi D tys (fun a w => xd w0 w tys ad cA g rf tv o ∧ a = sp_cmp (rf, tv) t u)) 0 0 := by
  refine xb_m (cc := cX1_compare) (maxL := 3) (ret := (some .int)) (by decide) rfl (Nat.le_of_ble_eq_true rfl) ?_
  intro p e s m below meth c A ls hx hb hr hml hown hts hlocks hnm hA hP hK hD hS hl
  have hl : lv_has ls 3 [(0, .ref (ad 0)), (1, .int t), (2, .int u)] := hl
  have hown : s.vm.findClass RX1 = some m.cls := hown
  refine lv_iload_n hx hb dX1_compare_0 rfl (lv_at hl 1 rfl) ?_
  refine xb_ri (va_runS (As := [.int t]) (rest := []) ⟨hx, hb, hml, hown, hts⟩ (cE_isT l D t) (va_cwS 1 hts gX1_compare_X1_isTally rfl rfl rfl (by decide +kernel) ⟨Nat.le_of_ble_eq_true rfl, Nat.le_of_ble_eq_true rfl⟩) (xb_ps rfl hP hK hD) rfl rfl hl.1 rfl (lv_room (Nat.le_of_ble_eq_true rfl)) dX1_compare_1 ⟨Nat.le_of_ble_eq_true rfl, Nat.le_of_ble_eq_true rfl⟩) hD hS hA (fun r1 ws1 H locs hws1 hP hD hS => ?_)
  obtain ⟨hr1, rfl⟩ := hws1
  refine lv_if_eq (tgt := 14) hx hb dX1_compare_4 (by decide) (fun c4 => ?_) (fun c4 => ?_)
  · have c4 := bz_0 hr1 c4
    refine lv_bipush (v := (-2)) hx hb dX1_compare_14 (by decide) ?_
    exact xb_ir hx hb hr hlocks hP hK hD hS dX1_compare_16 (⟨X, by rw [sp_cmp, if_neg (fun q => c4 q.1)]⟩)
  · have c4 := bz_1 hr1 c4
    refine lv_iload_n hx hb dX1_compare_7 rfl (lv_at hl 2 rfl) ?_
    refine xb_ri (va_runS (As := [.int u]) (rest := []) ⟨hx, hb, hml, hown, hts⟩ (cE_isT l D u) (va_cwS 1 hts gX1_compare_X1_isTally rfl rfl rfl (by decide +kernel) ⟨Nat.le_of_ble_eq_true rfl, Nat.le_of_ble_eq_true rfl⟩) (xb_ps rfl hP hK hD) rfl rfl hl.1 rfl (lv_room (Nat.le_of_ble_eq_true rfl)) dX1_compare_8 ⟨Nat.le_of_ble_eq_true rfl, Nat.le_of_ble_eq_true rfl⟩) hD hS hA (fun r8 ws2 H locs hws2 hP hD hS => ?_)
    obtain ⟨hr8, rfl⟩ := hws2
    refine lv_if_ne (tgt := 17) hx hb dX1_compare_11 (by decide) (fun c11 => ?_) (fun c11 => ?_)
    · have c11 := bz_1 hr8 c11
      refine lv_aload_n hx hb dX1_compare_17 rfl (lv_at hl 0 rfl) ?_
      refine va_get (D := D) (ci := ciE) (v := .ref (ad 2)) (C := RX1) (T := TX1) (N := 5) hx hb hts (by decide +kernel) hown hK hP 0 (xd_a0 X) rfl 1 (by decide) (hts (.fieldLink RX1 15 "ExactDesk" "tallies" "[LExactDesk$Wide;") (by decide +kernel)) (fun _ h9 => h9) rfl dX1_compare_18 ?_
      refine lv_iload_n hx hb dX1_compare_21 rfl (lv_at hl 1 rfl) ?_
      refine xd_ald hx hb hK hP X c4 dX1_compare_22 ?_
      refine lv_aload_n hx hb dX1_compare_23 rfl (lv_at hl 0 rfl) ?_
      refine va_get (D := D) (ci := ciE) (v := .ref (ad 2)) (C := RX1) (T := TX1) (N := 5) hx hb hts (by decide +kernel) hown hK hP 0 (xd_a0 X) rfl 1 (by decide) (hts (.fieldLink RX1 15 "ExactDesk" "tallies" "[LExactDesk$Wide;") (by decide +kernel)) (fun _ h9 => h9) rfl dX1_compare_24 ?_
      refine lv_iload_n hx hb dX1_compare_27 rfl (lv_at hl 2 rfl) ?_
      refine xd_ald hx hb hK hP X c11 dX1_compare_28 ?_
      refine xb_ri (va_runV (As := [.ref (ad (3 + u.toNatClampNeg))]) (rest := []) ⟨hx, hb, hml, hown, hts⟩ (cW_ord l D (xd_tl X (j4 c4)) (xd_tl X (j4 c11)) (xd_zr X (j4 c4)) (xd_zr X (j4 c11))) (cwV 1 hts gX1_compare_X0_orderTo rfl rfl rfl (by decide +kernel) ⟨Nat.le_of_ble_eq_true rfl, Nat.le_of_ble_eq_true rfl⟩) (xb_pv hP hK hD rfl rfl (xd_tl X (j4 c4))) rfl rfl hl.1 rfl (lv_room (Nat.le_of_ble_eq_true rfl)) dX1_compare_29 ⟨Nat.le_of_ble_eq_true rfl, Nat.le_of_ble_eq_true rfl⟩) hD hS hA (fun r29 ws3 H locs hws3 hP hD hS => ?_)
      obtain ⟨hr29, rfl⟩ := hws3
      exact xb_ir hx hb hr hlocks hP hK hD hS dX1_compare_32 (⟨X, by rw [sp_cmp, if_pos ⟨c4, c11⟩]; exact hr29⟩)
    · have c11 := bz_0 hr8 c11
      refine lv_bipush (v := (-2)) hx hb dX1_compare_14 (by decide) ?_
      exact xb_ir hx hb hr hlocks hP hK hD hS dX1_compare_16 (⟨X, by rw [sp_cmp, if_neg (fun q => c11 q.2)]⟩)
set_option maxHeartbeats 4000000 in
set_option maxRecDepth 100000 in
theorem cE_digits (l : Launch) (D : va_G) {tys : xT} {ws : va_W} {sz : Nat} {w0 : va_W} {ad : Nat → Nat} {cA : Nat → ClassId} {g : Nat → Option Nat} {rf : Nat → Int64} {tv : Nat → Int} {o : Int} (X : xd w0 ws tys ad cA g rf tv o) (t : Int32) : xM l yX1_digits wsX1_digits ({ frames := 3, cells := 0, slots := 0, locals := 69 }) D tys ws sz [.ref (ad 0), .int t] (xQi D tys (fun a w => (∃ o1, xd w0 w tys ad cA g rf tv o1) ∧ sp_digits (rf, tv) t a)) 0 0 := by
  refine xb_m (cc := cX1_digits) (maxL := 5) (ret := (some .int)) (by decide) rfl (Nat.le_of_ble_eq_true rfl) ?_
  intro p e s m below meth c A ls hx hb hr hml hown hts hlocks hnm hA hP hK hD hS hl
  have hl : lv_has ls 5 [(0, .ref (ad 0)), (1, .int t)] := hl
  have hown : s.vm.findClass RX1 = some m.cls := hown
  refine lv_iload_n hx hb dX1_digits_0 rfl (lv_at hl 1 rfl) ?_
  refine xb_ri (va_runS (As := [.int t]) (rest := []) ⟨hx, hb, hml, hown, hts⟩ (cE_isT l D t) (va_cwS 1 hts gX1_digits_X1_isTally rfl rfl rfl (by decide +kernel) ⟨Nat.le_of_ble_eq_true rfl, Nat.le_of_ble_eq_true rfl⟩) (xb_ps rfl hP hK hD) rfl rfl hl.1 rfl (lv_room (Nat.le_of_ble_eq_true rfl)) dX1_digits_1 ⟨Nat.le_of_ble_eq_true rfl, Nat.le_of_ble_eq_true rfl⟩) hD hS hA (fun r1 ws1 H locs hws1 hP hD hS => ?_)
  obtain ⟨hr1, rfl⟩ := hws1
  refine lv_if_ne (tgt := 9) hx hb dX1_digits_4 (by decide) (fun c4 => ?_) (fun c4 => ?_)
  · have c4 := bz_1 hr1 c4
    refine lv_aload_n hx hb dX1_digits_9 rfl (lv_at hl 0 rfl) ?_
    refine lv_aload_n hx hb dX1_digits_10 rfl (lv_at hl 0 rfl) ?_
    refine va_get (D := D) (ci := ciE) (v := .ref (ad 2)) (C := RX1) (T := TX1) (N := 5) hx hb hts (by decide +kernel) hown hK hP 0 (xd_a0 X) rfl 1 (by decide) (hts (.fieldLink RX1 15 "ExactDesk" "tallies" "[LExactDesk$Wide;") (by decide +kernel)) (fun _ h9 => h9) rfl dX1_digits_11 ?_
    refine lv_iload_n hx hb dX1_digits_14 rfl (lv_at hl 1 rfl) ?_
    refine xd_ald hx hb hK hP X c4 dX1_digits_15 ?_
    refine xb_rl (va_runV (As := [.ref (ad (3 + t.toNatClampNeg))]) (rest := []) ⟨hx, hb, hml, hown, hts⟩ (cE_uH l D X (j4 c4)) (cwV 1 hts gX1_digits_X1_upperHalf rfl rfl rfl (by decide +kernel) ⟨Nat.le_of_ble_eq_true rfl, Nat.le_of_ble_eq_true rfl⟩) (xb_pv hP hK hD rfl rfl (xd_a0 X)) rfl rfl hl.1 rfl (lv_room (Nat.le_of_ble_eq_true rfl)) dX1_digits_16 ⟨Nat.le_of_ble_eq_true rfl, Nat.le_of_ble_eq_true rfl⟩) hD hS hA (fun r16 ws2 H locs hws2 hP hD hS => ?_)
    obtain ⟨⟨o16, X⟩, hr16⟩ := hws2
    refine lv_lstore_n (lv' := [(2, .long r16), (0, .ref (ad 0)), (1, .int t)]) hx hb dX1_digits_19 rfl hl (by decide) rfl (fun ls hl => ?_)
    refine lv_lload_n hx hb dX1_digits_20 rfl (lv_at hl 0 rfl) ?_
    refine lv_lconst (v := 0) hx hb dX1_digits_21 (by decide) ?_
    refine W.lcmp hx hb dX1_digits_22 ?_
    refine lv_if_le (tgt := 36) hx hb dX1_digits_23 (by decide) (fun c23 => ?_) (fun c23 => ?_)
    · rw [lg_cmp_le] at c23
      rw [l_le0 (by have q1 := xd_lo X (j4 c4); have q2 := xd_hi X (j4 c4); omega)] at c23
      refine lv_aload_n hx hb dX1_digits_36 rfl (lv_at hl 1 rfl) ?_
      refine lv_aload_n hx hb dX1_digits_37 rfl (lv_at hl 1 rfl) ?_
      refine va_get (D := D) (ci := ciE) (v := .ref (ad 2)) (C := RX1) (T := TX1) (N := 5) hx hb hts (by decide +kernel) hown hK hP 0 (xd_a0 X) rfl 1 (by decide) (hts (.fieldLink RX1 15 "ExactDesk" "tallies" "[LExactDesk$Wide;") (by decide +kernel)) (fun _ h9 => h9) rfl dX1_digits_38 ?_
      refine lv_iload_n hx hb dX1_digits_41 rfl (lv_at hl 2 rfl) ?_
      refine xd_ald hx hb hK hP X c4 dX1_digits_42 ?_
      refine xb_rl (va_runV (As := [.ref (ad (3 + t.toNatClampNeg))]) (rest := []) ⟨hx, hb, hml, hown, hts⟩ (cE_lH l D X (j4 c4)) (cwV 1 hts gX1_digits_X1_lowerHalf rfl rfl rfl (by decide +kernel) ⟨Nat.le_of_ble_eq_true rfl, Nat.le_of_ble_eq_true rfl⟩) (xb_pv hP hK hD rfl rfl (xd_a0 X)) rfl rfl hl.1 rfl (lv_room (Nat.le_of_ble_eq_true rfl)) dX1_digits_43 ⟨Nat.le_of_ble_eq_true rfl, Nat.le_of_ble_eq_true rfl⟩) hD hS hA (fun r43 ws3 H locs hws3 hP hD hS => ?_)
      obtain ⟨⟨o43, X⟩, hr43⟩ := hws3
      refine xb_ri (va_runS (As := [.long r43]) (rest := []) ⟨hx, hb, hml, hown, hts⟩ (cE_dL l D r43 (by omega)) (va_cwS 1 hts gX1_digits_X1_decimalLength rfl rfl rfl (by decide +kernel) ⟨Nat.le_of_ble_eq_true rfl, Nat.le_of_ble_eq_true rfl⟩) (xb_ps rfl hP hK hD) rfl rfl hl.1 rfl (lv_room (Nat.le_of_ble_eq_true rfl)) dX1_digits_46 ⟨Nat.le_of_ble_eq_true rfl, Nat.le_of_ble_eq_true rfl⟩) hD hS hA (fun r46 ws4 H locs hws4 hP hD hS => ?_)
      obtain ⟨hr46, rfl⟩ := hws4
      refine lv_istore (lv' := [(4, .int r46), (2, .long r16), (0, .ref (ad 0)), (1, .int t)]) hx hb dX1_digits_49 hl (by decide) rfl (fun ls hl => ?_)
      refine lv_aload_n hx hb dX1_digits_51 rfl (lv_at hl 2 rfl) ?_
      refine va_get (D := D) (ci := ciE) (v := .ref (ad 2)) (C := RX1) (T := TX1) (N := 5) hx hb hts (by decide +kernel) hown hK hP 0 (xd_a0 X) rfl 1 (by decide) (hts (.fieldLink RX1 15 "ExactDesk" "tallies" "[LExactDesk$Wide;") (by decide +kernel)) (fun _ h9 => h9) rfl dX1_digits_52 ?_
      refine lv_iload_n hx hb dX1_digits_55 rfl (lv_at hl 3 rfl) ?_
      refine xd_ald hx hb hK hP X c4 dX1_digits_56 ?_
      refine xb_ri (va_runV (As := []) (rest := []) ⟨hx, hb, hml, hown, hts⟩ (cW_isneg l D (xd_tl X (j4 c4)) (xd_zr X (j4 c4))) (cwV 0 hts gX1_digits_X0_isNegative rfl rfl rfl (by decide +kernel) ⟨Nat.le_of_ble_eq_true rfl, Nat.le_of_ble_eq_true rfl⟩) (xb_pv hP hK hD rfl rfl (xd_tl X (j4 c4))) rfl rfl hl.1 rfl (lv_room (Nat.le_of_ble_eq_true rfl)) dX1_digits_57 ⟨Nat.le_of_ble_eq_true rfl, Nat.le_of_ble_eq_true rfl⟩) hD hS hA (fun r57 ws5 H locs hws5 hP hD hS => ?_)
      obtain ⟨hr57, rfl⟩ := hws5
      refine lv_if_eq (tgt := 69) hx hb dX1_digits_60 (by decide) (fun c60 => ?_) (fun c60 => ?_)
      · have c60 := bz_0 hr57 c60
        refine lv_iload hx hb dX1_digits_69 (lv_at hl 0 rfl) ?_
        exact xb_ir hx hb hr hlocks hP hK hD hS dX1_digits_71 (⟨⟨_, X⟩, by have q1 := xd_lo X (j4 c4); have q2 := xd_hi X (j4 c4); rw [sp_digits, if_pos c4]; obtain ⟨L, e1, e2, e3⟩ := hr46; exact ⟨L, by rw [hr43, Nat.mod_eq_of_lt (by omega)] at e3; exact e3, by omega, by rw [if_neg c60, e1]⟩⟩)
      · have c60 := bz_1 hr57 c60
        refine lv_iload hx hb dX1_digits_63 (lv_at hl 0 rfl) ?_
        refine lv_ineg hx hb dX1_digits_65 ?_
        refine lv_goto (tgt := 71) hx hb dX1_digits_66 (by decide) ?_
        exact xb_ir hx hb hr hlocks hP hK hD hS dX1_digits_71 (⟨⟨_, X⟩, by have q1 := xd_lo X (j4 c4); have q2 := xd_hi X (j4 c4); rw [sp_digits, if_pos c4]; obtain ⟨L, e1, e2, e3⟩ := hr46; exact ⟨L, by rw [hr43, Nat.mod_eq_of_lt (by omega)] at e3; exact e3, by omega, by rw [if_pos c60, e1]⟩⟩)
    · rw [lg_cmp_le] at c23
      rw [l_le0 (by have q1 := xd_lo X (j4 c4); have q2 := xd_hi X (j4 c4); omega)] at c23
      refine lv_bipush (v := 18) hx hb dX1_digits_26 (by decide) ?_
      refine lv_lload_n hx hb dX1_digits_28 rfl (lv_at hl 0 rfl) ?_
      refine xb_ri (va_runS (As := [.long r16]) (rest := [.int 18]) ⟨hx, hb, hml, hown, hts⟩ (cE_dL l D r16 (by have q1 := xd_lo X (j4 c4); have q2 := xd_hi X (j4 c4); omega)) (va_cwS 1 hts gX1_digits_X1_decimalLength rfl rfl rfl (by decide +kernel) ⟨Nat.le_of_ble_eq_true rfl, Nat.le_of_ble_eq_true rfl⟩) (xb_ps rfl hP hK hD) rfl rfl hl.1 rfl (lv_room (Nat.le_of_ble_eq_true rfl)) dX1_digits_29 ⟨Nat.le_of_ble_eq_true rfl, Nat.le_of_ble_eq_true rfl⟩) hD hS hA (fun r29 ws3 H locs hws3 hP hD hS => ?_)
      obtain ⟨hr29, rfl⟩ := hws3
      refine lv_iadd hx hb dX1_digits_32 ?_
      refine lv_goto (tgt := 49) hx hb dX1_digits_33 (by decide) ?_
      refine lv_istore (lv' := [(4, .int (18 + r29)), (2, .long r16), (0, .ref (ad 0)), (1, .int t)]) hx hb dX1_digits_49 hl (by decide) rfl (fun ls hl => ?_)
      refine lv_aload_n hx hb dX1_digits_51 rfl (lv_at hl 2 rfl) ?_
      refine va_get (D := D) (ci := ciE) (v := .ref (ad 2)) (C := RX1) (T := TX1) (N := 5) hx hb hts (by decide +kernel) hown hK hP 0 (xd_a0 X) rfl 1 (by decide) (hts (.fieldLink RX1 15 "ExactDesk" "tallies" "[LExactDesk$Wide;") (by decide +kernel)) (fun _ h9 => h9) rfl dX1_digits_52 ?_
      refine lv_iload_n hx hb dX1_digits_55 rfl (lv_at hl 3 rfl) ?_
      refine xd_ald hx hb hK hP X c4 dX1_digits_56 ?_
      refine xb_ri (va_runV (As := []) (rest := []) ⟨hx, hb, hml, hown, hts⟩ (cW_isneg l D (xd_tl X (j4 c4)) (xd_zr X (j4 c4))) (cwV 0 hts gX1_digits_X0_isNegative rfl rfl rfl (by decide +kernel) ⟨Nat.le_of_ble_eq_true rfl, Nat.le_of_ble_eq_true rfl⟩) (xb_pv hP hK hD rfl rfl (xd_tl X (j4 c4))) rfl rfl hl.1 rfl (lv_room (Nat.le_of_ble_eq_true rfl)) dX1_digits_57 ⟨Nat.le_of_ble_eq_true rfl, Nat.le_of_ble_eq_true rfl⟩) hD hS hA (fun r57 ws4 H locs hws4 hP hD hS => ?_)
      obtain ⟨hr57, rfl⟩ := hws4
      refine lv_if_eq (tgt := 69) hx hb dX1_digits_60 (by decide) (fun c60 => ?_) (fun c60 => ?_)
      · have c60 := bz_0 hr57 c60
        refine lv_iload hx hb dX1_digits_69 (lv_at hl 0 rfl) ?_
        exact xb_ir hx hb hr hlocks hP hK hD hS dX1_digits_71 (⟨⟨_, X⟩, by have q1 := xd_lo X (j4 c4); have q2 := xd_hi X (j4 c4); rw [sp_digits, if_pos c4]; obtain ⟨L, e1, e2, e3⟩ := hr29; exact ⟨18 + L, sLen_hi hr16 c23 e3, by omega, by rw [if_neg c60, e1, show (18 : Int32) = nI 18 from rfl, nI_add]⟩⟩)
      · have c60 := bz_1 hr57 c60
        refine lv_iload hx hb dX1_digits_63 (lv_at hl 0 rfl) ?_
        refine lv_ineg hx hb dX1_digits_65 ?_
        refine lv_goto (tgt := 71) hx hb dX1_digits_66 (by decide) ?_
        exact xb_ir hx hb hr hlocks hP hK hD hS dX1_digits_71 (⟨⟨_, X⟩, by have q1 := xd_lo X (j4 c4); have q2 := xd_hi X (j4 c4); rw [sp_digits, if_pos c4]; obtain ⟨L, e1, e2, e3⟩ := hr29; exact ⟨18 + L, sLen_hi hr16 c23 e3, by omega, by rw [if_pos c60, e1, show (18 : Int32) = nI 18 from rfl, nI_add]⟩⟩)
  · have c4 := bz_0 hr1 c4
    refine lv_iconst (v := 0) hx hb dX1_digits_7 (by decide) ?_
    exact xb_ir hx hb hr hlocks hP hK hD hS dX1_digits_8 (⟨⟨_, X⟩, by rw [sp_digits, if_neg c4]⟩)
set_option maxHeartbeats 4000000 in
set_option maxRecDepth 100000 in
theorem cE_digit (l : Launch) (D : va_G) {tys : xT} {ws : va_W} {sz : Nat} {w0 : va_W} {ad : Nat → Nat} {cA : Nat → ClassId} {g : Nat → Option Nat} {rf : Nat → Int64} {tv : Nat → Int} {o : Int} (X : xd w0 ws tys ad cA g rf tv o) (t k : Int32) : xM l yX1_digit wsX1_digit ({ frames := 3, cells := 0, slots := 0, locals := 69 }) D tys ws sz [.ref (ad 0), .int t, .int k] (xQi D tys (fun a w => (∃ o1, xd w0 w tys ad cA g rf tv o1) ∧ a = sp_digit (rf, tv) t k)) 0 0 := by
  refine xb_m (cc := cX1_digit) (maxL := 3) (ret := (some .int)) (by decide) rfl (Nat.le_of_ble_eq_true rfl) ?_
  intro p e s m below meth c A ls hx hb hr hml hown hts hlocks hnm hA hP hK hD hS hl
  have hl : lv_has ls 3 [(0, .ref (ad 0)), (1, .int t), (2, .int k)] := hl
  have hown : s.vm.findClass RX1 = some m.cls := hown
  refine lv_iload_n hx hb dX1_digit_0 rfl (lv_at hl 1 rfl) ?_
  refine xb_ri (va_runS (As := [.int t]) (rest := []) ⟨hx, hb, hml, hown, hts⟩ (cE_isT l D t) (va_cwS 1 hts gX1_digit_X1_isTally rfl rfl rfl (by decide +kernel) ⟨Nat.le_of_ble_eq_true rfl, Nat.le_of_ble_eq_true rfl⟩) (xb_ps rfl hP hK hD) rfl rfl hl.1 rfl (lv_room (Nat.le_of_ble_eq_true rfl)) dX1_digit_1 ⟨Nat.le_of_ble_eq_true rfl, Nat.le_of_ble_eq_true rfl⟩) hD hS hA (fun r1 ws1 H locs hws1 hP hD hS => ?_)
  obtain ⟨hr1, rfl⟩ := hws1
  refine lv_if_eq (tgt := 17) hx hb dX1_digit_4 (by decide) (fun c4 => ?_) (fun c4 => ?_)
  · have c4 := bz_0 hr1 c4
    refine lv_iconst (v := (-1)) hx hb dX1_digit_17 (by decide) ?_
    exact xb_ir hx hb hr hlocks hP hK hD hS dX1_digit_18 (⟨⟨_, X⟩, by rw [sp_digit, if_neg (fun q => c4 q.1)]⟩)
  · have c4 := bz_1 hr1 c4
    refine lv_iload_n hx hb dX1_digit_7 rfl (lv_at hl 2 rfl) ?_
    refine lv_if_lt (tgt := 17) hx hb dX1_digit_8 (by decide) (fun c8 => ?_) (fun c8 => ?_)
    · refine lv_iconst (v := (-1)) hx hb dX1_digit_17 (by decide) ?_
      exact xb_ir hx hb hr hlocks hP hK hD hS dX1_digit_18 (⟨⟨_, X⟩, by rw [sp_digit, if_neg (fun q => q.2.1 c8)]⟩)
    · refine lv_iload_n hx hb dX1_digit_11 rfl (lv_at hl 2 rfl) ?_
      refine lv_bipush (v := 36) hx hb dX1_digit_12 (by decide) ?_
      refine lv_icmp_lt (tgt := 19) hx hb dX1_digit_14 (by decide) (fun c14 => ?_) (fun c14 => ?_)
      · refine lv_iload_n hx hb dX1_digit_19 rfl (lv_at hl 2 rfl) ?_
        refine lv_bipush (v := 18) hx hb dX1_digit_20 (by decide) ?_
        refine lv_icmp_ge (tgt := 42) hx hb dX1_digit_22 (by decide) (fun c22 => ?_) (fun c22 => ?_)
        · refine lv_aload_n hx hb dX1_digit_42 rfl (lv_at hl 0 rfl) ?_
          refine lv_aload_n hx hb dX1_digit_43 rfl (lv_at hl 0 rfl) ?_
          refine va_get (D := D) (ci := ciE) (v := .ref (ad 2)) (C := RX1) (T := TX1) (N := 5) hx hb hts (by decide +kernel) hown hK hP 0 (xd_a0 X) rfl 1 (by decide) (hts (.fieldLink RX1 15 "ExactDesk" "tallies" "[LExactDesk$Wide;") (by decide +kernel)) (fun _ h9 => h9) rfl dX1_digit_44 ?_
          refine lv_iload_n hx hb dX1_digit_47 rfl (lv_at hl 1 rfl) ?_
          refine xd_ald hx hb hK hP X c4 dX1_digit_48 ?_
          refine xb_rl (va_runV (As := [.ref (ad (3 + t.toNatClampNeg))]) (rest := []) ⟨hx, hb, hml, hown, hts⟩ (cE_uH l D X (j4 c4)) (cwV 1 hts gX1_digit_X1_upperHalf rfl rfl rfl (by decide +kernel) ⟨Nat.le_of_ble_eq_true rfl, Nat.le_of_ble_eq_true rfl⟩) (xb_pv hP hK hD rfl rfl (xd_a0 X)) rfl rfl hl.1 rfl (lv_room (Nat.le_of_ble_eq_true rfl)) dX1_digit_49 ⟨Nat.le_of_ble_eq_true rfl, Nat.le_of_ble_eq_true rfl⟩) hD hS hA (fun r49 ws2 H locs hws2 hP hD hS => ?_)
          obtain ⟨⟨o49, X⟩, hr49⟩ := hws2
          refine lv_iload_n hx hb dX1_digit_52 rfl (lv_at hl 2 rfl) ?_
          refine lv_bipush (v := 18) hx hb dX1_digit_53 (by decide) ?_
          refine lv_isub hx hb dX1_digit_55 ?_
          refine xb_ri (va_runS (As := [.long r49, .int (k - 18)]) (rest := []) ⟨hx, hb, hml, hown, hts⟩ (cE_dD l D r49 (k - 18) (by have q1 := xd_lo X (j4 c4); have q2 := xd_hi X (j4 c4); omega) (K := k.toNatClampNeg - 18) (k18 c8 c22) (by have q := lt36 c8 c14; rw [lt18 c8] at c22; omega)) (va_cwS 2 hts gX1_digit_X1_decimalDigit rfl rfl rfl (by decide +kernel) ⟨Nat.le_of_ble_eq_true rfl, Nat.le_of_ble_eq_true rfl⟩) (xb_ps rfl hP hK hD) rfl rfl hl.1 rfl (lv_room (Nat.le_of_ble_eq_true rfl)) dX1_digit_56 ⟨Nat.le_of_ble_eq_true rfl, Nat.le_of_ble_eq_true rfl⟩) hD hS hA (fun r56 ws3 H locs hws3 hP hD hS => ?_)
          obtain ⟨hr56, rfl⟩ := hws3
          exact xb_ir hx hb hr hlocks hP hK hD hS dX1_digit_59 (⟨⟨_, X⟩, by rw [lt18 c8] at c22; rw [sp_digit, if_pos ⟨c4, c8, c14⟩, hr56, hr49, dg_hi c22]⟩)
        · refine lv_aload_n hx hb dX1_digit_25 rfl (lv_at hl 0 rfl) ?_
          refine lv_aload_n hx hb dX1_digit_26 rfl (lv_at hl 0 rfl) ?_
          refine va_get (D := D) (ci := ciE) (v := .ref (ad 2)) (C := RX1) (T := TX1) (N := 5) hx hb hts (by decide +kernel) hown hK hP 0 (xd_a0 X) rfl 1 (by decide) (hts (.fieldLink RX1 15 "ExactDesk" "tallies" "[LExactDesk$Wide;") (by decide +kernel)) (fun _ h9 => h9) rfl dX1_digit_27 ?_
          refine lv_iload_n hx hb dX1_digit_30 rfl (lv_at hl 1 rfl) ?_
          refine xd_ald hx hb hK hP X c4 dX1_digit_31 ?_
          refine xb_rl (va_runV (As := [.ref (ad (3 + t.toNatClampNeg))]) (rest := []) ⟨hx, hb, hml, hown, hts⟩ (cE_lH l D X (j4 c4)) (cwV 1 hts gX1_digit_X1_lowerHalf rfl rfl rfl (by decide +kernel) ⟨Nat.le_of_ble_eq_true rfl, Nat.le_of_ble_eq_true rfl⟩) (xb_pv hP hK hD rfl rfl (xd_a0 X)) rfl rfl hl.1 rfl (lv_room (Nat.le_of_ble_eq_true rfl)) dX1_digit_32 ⟨Nat.le_of_ble_eq_true rfl, Nat.le_of_ble_eq_true rfl⟩) hD hS hA (fun r32 ws2 H locs hws2 hP hD hS => ?_)
          obtain ⟨⟨o32, X⟩, hr32⟩ := hws2
          refine lv_iload_n hx hb dX1_digit_35 rfl (lv_at hl 2 rfl) ?_
          refine xb_ri (va_runS (As := [.long r32, .int k]) (rest := []) ⟨hx, hb, hml, hown, hts⟩ (cE_dD l D r32 k (by omega) (ix_n c8) (by rw [lt18 c8] at c22; omega)) (va_cwS 2 hts gX1_digit_X1_decimalDigit rfl rfl rfl (by decide +kernel) ⟨Nat.le_of_ble_eq_true rfl, Nat.le_of_ble_eq_true rfl⟩) (xb_ps rfl hP hK hD) rfl rfl hl.1 rfl (lv_room (Nat.le_of_ble_eq_true rfl)) dX1_digit_36 ⟨Nat.le_of_ble_eq_true rfl, Nat.le_of_ble_eq_true rfl⟩) hD hS hA (fun r36 ws3 H locs hws3 hP hD hS => ?_)
          obtain ⟨hr36, rfl⟩ := hws3
          refine lv_goto (tgt := 59) hx hb dX1_digit_39 (by decide) ?_
          exact xb_ir hx hb hr hlocks hP hK hD hS dX1_digit_59 (⟨⟨_, X⟩, by rw [lt18 c8] at c22; rw [sp_digit, if_pos ⟨c4, c8, c14⟩, hr36, hr32, dg_lo (by omega)]⟩)
      · refine lv_iconst (v := (-1)) hx hb dX1_digit_17 (by decide) ?_
        exact xb_ir hx hb hr hlocks hP hK hD hS dX1_digit_18 (⟨⟨_, X⟩, by rw [sp_digit, if_neg (fun q => c14 q.2.2)]⟩)
set_option maxHeartbeats 4000000 in
set_option maxRecDepth 100000 in
theorem cE_split (l : Launch) (D : va_G) {tys : xT} {ws : va_W} {sz : Nat} {w0 : va_W} {ad : Nat → Nat} {cA : Nat → ClassId} {g : Nat → Option Nat} {rf : Nat → Int64} {tv : Nat → Int} {o : Int} (X : xd w0 ws tys ad cA g rf tv o) (t : Int32) (d : Int64) (r : Int32) : xM l yX1_split wsX1_split ({ frames := 2, cells := 0, slots := 0, locals := 48 }) D tys ws sz [.ref (ad 0), .int t, .long d, .int r] (xQi D tys (fun a w => ∃ o1, xd w0 w tys ad cA g (sp_split (rf, tv) t d r).2.1 (sp_split (rf, tv) t d r).2.2 o1 ∧ a = (sp_split (rf, tv) t d r).1)) 0 0 := by
  refine xb_m (cc := cX1_split) (maxL := 9) (ret := (some .int)) (by decide) rfl (Nat.le_of_ble_eq_true rfl) ?_
  intro p e s m below meth c A ls hx hb hr hml hown hts hlocks hnm hA hP hK hD hS hl
  have hl : lv_has ls 9 [(0, .ref (ad 0)), (1, .int t), (2, .long d), (4, .int r)] := hl
  have hown : s.vm.findClass RX1 = some m.cls := hown
  refine lv_iload_n hx hb dX1_split_0 rfl (lv_at hl 1 rfl) ?_
  refine xb_ri (va_runS (As := [.int t]) (rest := []) ⟨hx, hb, hml, hown, hts⟩ (cE_isT l D t) (va_cwS 1 hts gX1_split_X1_isTally rfl rfl rfl (by decide +kernel) ⟨Nat.le_of_ble_eq_true rfl, Nat.le_of_ble_eq_true rfl⟩) (xb_ps rfl hP hK hD) rfl rfl hl.1 rfl (lv_room (Nat.le_of_ble_eq_true rfl)) dX1_split_1 ⟨Nat.le_of_ble_eq_true rfl, Nat.le_of_ble_eq_true rfl⟩) hD hS hA (fun r1 ws1 H locs hws1 hP hD hS => ?_)
  obtain ⟨hr1, rfl⟩ := hws1
  refine lv_if_eq (tgt := 29) hx hb dX1_split_4 (by decide) (fun c4 => ?_) (fun c4 => ?_)
  · have c4 := bz_0 hr1 c4
    refine lv_iconst (v := (-1)) hx hb dX1_split_29 (by decide) ?_
    exact xb_ir hx hb hr hlocks hP hK hD hS dX1_split_30 (by rw [sp_split, if_neg (fun q => c4 q.1)]; exact ⟨_, X, rfl⟩)
  · have c4 := bz_1 hr1 c4
    refine lv_iload hx hb dX1_split_7 (lv_at hl 3 rfl) ?_
    refine xb_ri (va_runS (As := [.int r]) (rest := []) ⟨hx, hb, hml, hown, hts⟩ (cE_isR l D r) (va_cwS 1 hts gX1_split_X1_isRegister rfl rfl rfl (by decide +kernel) ⟨Nat.le_of_ble_eq_true rfl, Nat.le_of_ble_eq_true rfl⟩) (xb_ps rfl hP hK hD) rfl rfl hl.1 rfl (lv_room (Nat.le_of_ble_eq_true rfl)) dX1_split_9 ⟨Nat.le_of_ble_eq_true rfl, Nat.le_of_ble_eq_true rfl⟩) hD hS hA (fun r9 ws2 H locs hws2 hP hD hS => ?_)
    obtain ⟨hr9, rfl⟩ := hws2
    refine lv_if_eq (tgt := 29) hx hb dX1_split_12 (by decide) (fun c12 => ?_) (fun c12 => ?_)
    · have c12 := bz_0 hr9 c12
      refine lv_iconst (v := (-1)) hx hb dX1_split_29 (by decide) ?_
      exact xb_ir hx hb hr hlocks hP hK hD hS dX1_split_30 (by rw [sp_split, if_neg (fun q => c12 q.2.1)]; exact ⟨_, X, rfl⟩)
    · have c12 := bz_1 hr9 c12
      refine lv_lload_n hx hb dX1_split_15 rfl (lv_at hl 2 rfl) ?_
      refine lv_lconst (v := 0) hx hb dX1_split_16 (by decide) ?_
      refine W.lcmp hx hb dX1_split_17 ?_
      refine lv_if_lt (tgt := 29) hx hb dX1_split_18 (by decide) (fun c18 => ?_) (fun c18 => ?_)
      · rw [lg_cmp_lt] at c18
        refine lv_iconst (v := (-1)) hx hb dX1_split_29 (by decide) ?_
        exact xb_ir hx hb hr hlocks hP hK hD hS dX1_split_30 (by rw [sp_split, if_neg (fun q => q.2.2.1 c18)]; exact ⟨_, X, rfl⟩)
      · rw [lg_cmp_lt] at c18
        refine lv_lload_n hx hb dX1_split_21 rfl (lv_at hl 2 rfl) ?_
        refine lv_ldc2 (v := 1000000000000000000) hx hb hown (hts (.constantLong RX1 24 (1000000000000000000)) (by decide +kernel)) dX1_split_22 ?_
        refine W.lcmp hx hb dX1_split_25 ?_
        refine lv_if_le (tgt := 31) hx hb dX1_split_26 (by decide) (fun c26 => ?_) (fun c26 => ?_)
        · rw [lg_cmp_le] at c26
          refine lv_lload_n hx hb dX1_split_31 rfl (lv_at hl 2 rfl) ?_
          refine lv_lconst (v := 0) hx hb dX1_split_32 (by decide) ?_
          refine W.lcmp hx hb dX1_split_33 ?_
          refine lv_if_ne (tgt := 39) hx hb dX1_split_34 (by decide) (fun c34 => ?_) (fun c34 => ?_)
          · rw [lg_cmp_eq] at c34
            refine lv_aload_n hx hb dX1_split_39 rfl (lv_at hl 0 rfl) ?_
            refine va_get (D := D) (ci := ciE) (v := .ref (ad 2)) (C := RX1) (T := TX1) (N := 5) hx hb hts (by decide +kernel) hown hK hP 0 (xd_a0 X) rfl 1 (by decide) (hts (.fieldLink RX1 15 "ExactDesk" "tallies" "[LExactDesk$Wide;") (by decide +kernel)) (fun _ h9 => h9) rfl dX1_split_40 ?_
            refine lv_iload_n hx hb dX1_split_43 rfl (lv_at hl 1 rfl) ?_
            refine xd_ald hx hb hK hP X c4 dX1_split_44 ?_
            refine lv_astore (lv' := [(5, .ref (ad (3 + t.toNatClampNeg))), (0, .ref (ad 0)), (1, .int t), (2, .long d), (4, .int r)]) hx hb dX1_split_45 hl (by decide) rfl (fun ls hl => ?_)
            refine lv_aload hx hb dX1_split_47 (lv_at hl 0 rfl) ?_
            have hbb := zr_x (xd_lo X (j4 c4)) (xd_hi X (j4 c4))
            have hk := xd_tl X (j4 c4)
            refine xb_ri (va_runV (As := []) (rest := []) ⟨hx, hb, hml, hown, hts⟩ (cW_isneg l D hk hbb.1) (cwV 0 hts gX1_split_X0_isNegative rfl rfl rfl (by decide +kernel) ⟨Nat.le_of_ble_eq_true rfl, Nat.le_of_ble_eq_true rfl⟩) (xb_pv hP hK hD rfl rfl hk) rfl rfl hl.1 rfl (lv_room (Nat.le_of_ble_eq_true rfl)) dX1_split_49 ⟨Nat.le_of_ble_eq_true rfl, Nat.le_of_ble_eq_true rfl⟩) hD hS hA (fun r49 ws3 H locs hws3 hP hD hS => ?_)
            obtain ⟨hr49, rfl⟩ := hws3
            refine lv_istore (lv' := [(6, .int r49), (5, .ref (ad (3 + t.toNatClampNeg))), (0, .ref (ad 0)), (1, .int t), (2, .long d), (4, .int r)]) hx hb dX1_split_52 hl (by decide) rfl (fun ls hl => ?_)
            refine lv_aload hx hb dX1_split_54 (lv_at hl 1 rfl) ?_
            refine xb_rv (va_runV (As := []) (rest := []) ⟨hx, hb, hml, hown, hts⟩ (cW_drop l D hk hbb.1 hbb.2.1) (cwV 0 hts gX1_split_X0_dropSign rfl rfl rfl (by decide +kernel) ⟨Nat.le_of_ble_eq_true rfl, Nat.le_of_ble_eq_true rfl⟩) (xb_pv hP hK hD rfl rfl hk) rfl rfl hl.1 rfl (lv_room (Nat.le_of_ble_eq_true rfl)) dX1_split_56 ⟨Nat.le_of_ble_eq_true rfl, Nat.le_of_ble_eq_true rfl⟩) hD hS hA (fun ws4 H locs hws4 hP hD hS => ?_)
            have hws4 : ws4 = ws.set (3 + t.toNatClampNeg) (ad (3 + t.toNatClampNeg), wdI ((tv t.toNatClampNeg).natAbs : Int)) := by rw [hws4]
            have hk : ws4[3 + t.toNatClampNeg]? = some (ad (3 + t.toNatClampNeg), wdI ((tv t.toNatClampNeg).natAbs : Int)) := by rw [hws4]; exact sgS (xd_tl X (j4 c4))
            refine lv_aload hx hb dX1_split_59 (lv_at hl 1 rfl) ?_
            refine lv_lload_n hx hb dX1_split_61 rfl (lv_at hl 4 rfl) ?_
            have hdp : 0 < d.toInt := by rw [Int64.lt_iff_toInt_lt] at c18; have e : (0 : Int64).toInt = 0 := (by decide); have := l_ne c34; omega
            have hdu : (uN d : Int) = d.toInt := by have := un_c d; have := un_hi d; omega
            have hd8 : d.toInt ≤ 1000000000000000000 := by rw [Int64.le_iff_toInt_le] at c26; exact c26
            refine xb_rl (va_runV (As := [.long d]) (rest := []) ⟨hx, hb, hml, hown, hts⟩ (cW_div l D hk d (by omega) hbb.2.2 (by omega) (by omega)) (cwV 1 hts gX1_split_X0_divideBy rfl rfl rfl (by decide +kernel) ⟨Nat.le_of_ble_eq_true rfl, Nat.le_of_ble_eq_true rfl⟩) (xb_pv hP hK hD rfl rfl hk) rfl rfl hl.1 rfl (lv_room (Nat.le_of_ble_eq_true rfl)) dX1_split_62 ⟨Nat.le_of_ble_eq_true rfl, Nat.le_of_ble_eq_true rfl⟩) hD hS hA (fun r62 ws5 H locs hws5 hP hD hS => ?_)
            obtain ⟨hws5, hr62⟩ := hws5
            have hws5 : ws5 = ws.set (3 + t.toNatClampNeg) (ad (3 + t.toNatClampNeg), wdI (((tv t.toNatClampNeg).natAbs : Int) / (uN d : Int))) := by rw [hws5, hws4, List.set_set]
            have hk : ws5[3 + t.toNatClampNeg]? = some (ad (3 + t.toNatClampNeg), wdI (((tv t.toNatClampNeg).natAbs : Int) / (uN d : Int))) := by rw [hws5]; exact sgS (xd_tl X (j4 c4))
            have hbd := div_b (n := (tv t.toNatClampNeg).natAbs) (d := uN d)
            refine lv_lstore (lv' := [(7, .long r62), (6, .int r49), (5, .ref (ad (3 + t.toNatClampNeg))), (0, .ref (ad 0)), (1, .int t), (2, .long d), (4, .int r)]) hx hb dX1_split_65 hl (by decide) rfl (fun ls hl => ?_)
            refine lv_iload hx hb dX1_split_67 (lv_at hl 1 rfl) ?_
            refine lv_if_eq (tgt := 82) hx hb dX1_split_69 (by decide) (fun c69 => ?_) (fun c69 => ?_)
            · have c69 := bz_0 hr49 c69
              obtain ⟨g1, g2⟩ := sp_p c69 hdp hr62
              rw [g2] at hws5
              have tb := tdiv_b (d := d.toInt) (xd_lo X (j4 c4)) (xd_hi X (j4 c4))
              have X := xd_setT X (j4 c4) tb.1 tb.2 hws5
              refine lv_aload_n hx hb dX1_split_82 rfl (lv_at hl 3 rfl) ?_
              refine va_get (D := D) (ci := ciE) (v := .ref (ad 1)) (C := RX1) (T := TX1) (N := 5) hx hb hts (by decide +kernel) hown hK hP 0 (xd_a0 X) rfl 0 (by decide) (hts (.fieldLink RX1 9 "ExactDesk" "registers" "[J") (by decide +kernel)) (fun _ h9 => h9) rfl dX1_split_83 ?_
              refine lv_iload hx hb dX1_split_86 (lv_at hl 6 rfl) ?_
              refine lv_lload hx hb dX1_split_88 (lv_at hl 0 rfl) ?_
              refine xd_lst hx hb hK hP hD hS X c12 dX1_split_90 (fun ws6 H locs X hP hD hS => ?_)
              refine lv_iconst (v := 0) hx hb dX1_split_91 (by decide) ?_
              exact xb_ir hx hb hr hlocks hP hK hD hS dX1_split_92 (by rw [sp_split, if_pos ⟨c4, c12, c18, Int64.not_lt.mpr c26⟩, if_neg c34]; rw [g1] at X; exact ⟨_, X, rfl⟩)
            · have c69 := bz_1 hr49 c69
              refine lv_aload hx hb dX1_split_72 (lv_at hl 2 rfl) ?_
              refine xb_rv (va_runV (As := []) (rest := []) ⟨hx, hb, hml, hown, hts⟩ (cW_neg l D hk ⟨by have q := hbb.2.2; unfold zR at q; omega, by have q := hbb.2.2; unfold zR at q; omega⟩ ⟨by have q := hbb.2.2; unfold zR at q; omega, by have q := hbb.2.2; unfold zR at q; omega⟩) (cwV 0 hts gX1_split_X0_negate rfl rfl rfl (by decide +kernel) ⟨Nat.le_of_ble_eq_true rfl, Nat.le_of_ble_eq_true rfl⟩) (xb_pv hP hK hD rfl rfl hk) rfl rfl hl.1 rfl (lv_room (Nat.le_of_ble_eq_true rfl)) dX1_split_74 ⟨Nat.le_of_ble_eq_true rfl, Nat.le_of_ble_eq_true rfl⟩) hD hS hA (fun ws6 H locs hws6 hP hD hS => ?_)
              have hws6 : ws6 = ws.set (3 + t.toNatClampNeg) (ad (3 + t.toNatClampNeg), wdI (-(((tv t.toNatClampNeg).natAbs : Int) / (uN d : Int)))) := by rw [hws6, hws5, List.set_set]
              have hk : ws6[3 + t.toNatClampNeg]? = some (ad (3 + t.toNatClampNeg), wdI (-(((tv t.toNatClampNeg).natAbs : Int) / (uN d : Int)))) := by rw [hws6]; exact sgS (xd_tl X (j4 c4))
              refine lv_lload hx hb dX1_split_77 (lv_at hl 0 rfl) ?_
              refine lv_lneg hx hb dX1_split_79 ?_
              refine lv_lstore (lv' := [(7, .long (-r62)), (6, .int r49), (5, .ref (ad (3 + t.toNatClampNeg))), (0, .ref (ad 0)), (1, .int t), (2, .long d), (4, .int r)]) hx hb dX1_split_80 hl (by decide) rfl (fun ls hl => ?_)
              obtain ⟨g1, g2⟩ := sp_n c69 hdp hr62
              rw [g2] at hws6
              have tb := tdiv_b (d := d.toInt) (xd_lo X (j4 c4)) (xd_hi X (j4 c4))
              have X := xd_setT X (j4 c4) tb.1 tb.2 hws6
              refine lv_aload_n hx hb dX1_split_82 rfl (lv_at hl 3 rfl) ?_
              refine va_get (D := D) (ci := ciE) (v := .ref (ad 1)) (C := RX1) (T := TX1) (N := 5) hx hb hts (by decide +kernel) hown hK hP 0 (xd_a0 X) rfl 0 (by decide) (hts (.fieldLink RX1 9 "ExactDesk" "registers" "[J") (by decide +kernel)) (fun _ h9 => h9) rfl dX1_split_83 ?_
              refine lv_iload hx hb dX1_split_86 (lv_at hl 6 rfl) ?_
              refine lv_lload hx hb dX1_split_88 (lv_at hl 0 rfl) ?_
              refine xd_lst hx hb hK hP hD hS X c12 dX1_split_90 (fun ws7 H locs X hP hD hS => ?_)
              refine lv_iconst (v := 0) hx hb dX1_split_91 (by decide) ?_
              exact xb_ir hx hb hr hlocks hP hK hD hS dX1_split_92 (by rw [sp_split, if_pos ⟨c4, c12, c18, Int64.not_lt.mpr c26⟩, if_neg c34]; rw [g1] at X; exact ⟨_, X, rfl⟩)
          · rw [lg_cmp_eq] at c34
            refine lv_iconst (v := 3) hx hb dX1_split_37 (by decide) ?_
            exact xb_ir hx hb hr hlocks hP hK hD hS dX1_split_38 (by rw [sp_split, if_pos ⟨c4, c12, c18, Int64.not_lt.mpr c26⟩, if_pos c34]; exact ⟨_, X, rfl⟩)
        · rw [lg_cmp_le] at c26
          refine lv_iconst (v := (-1)) hx hb dX1_split_29 (by decide) ?_
          exact xb_ir hx hb hr hlocks hP hK hD hS dX1_split_30 (by rw [sp_split, if_neg (fun q => q.2.2.2 (Int64.not_le.mp c26))]; exact ⟨_, X, rfl⟩)
