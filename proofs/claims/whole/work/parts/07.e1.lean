-- the rows of ExactDesk, one (laid by wip/whole/gen_desk.py)
set_option maxHeartbeats 4000000 in
set_option maxRecDepth 100000 in
theorem cE_isR (l : Launch) (D : va_G) {tys : xT} {ws : va_W} {sz : Nat} (r : Int32) : xM l yX1_isRegister wsX1_isRegister ({ frames := 0, cells := 0, slots := 0, locals := 0 }) D tys ws sz [.int r] (xQi D tys (fun a w => a = (if okR r then 1 else 0) ∧ ws = w)) 0 0 := by
  refine xb_m (cc := cX1_isRegister) (maxL := 1) (ret := (some .boolean)) (by decide) rfl (Nat.le_of_ble_eq_true rfl) ?_
  intro p e s m below meth c A ls hx hb hr hml hown hts hlocks hnm hA hP hK hD hS hl
  have hl : lv_has ls 1 [(0, .int r)] := hl
  have hown : s.vm.findClass RX1 = some m.cls := hown
  refine lv_iload_n hx hb dX1_isRegister_0 rfl (lv_at hl 0 rfl) ?_
  refine lv_if_lt (tgt := 14) hx hb dX1_isRegister_1 (by decide) (fun c1 => ?_) (fun c1 => ?_)
  · refine lv_iconst (v := 0) hx hb dX1_isRegister_14 (by decide) ?_
    exact xb_zr hx hb hr hlocks hP hK hD hS dX1_isRegister_15 rfl (⟨by rw [if_neg (fun q => q.1 c1)], rfl⟩)
  · refine lv_iload_n hx hb dX1_isRegister_4 rfl (lv_at hl 0 rfl) ?_
    refine lv_bipush (v := 8) hx hb dX1_isRegister_5 (by decide) ?_
    refine lv_icmp_ge (tgt := 14) hx hb dX1_isRegister_7 (by decide) (fun c7 => ?_) (fun c7 => ?_)
    · refine lv_iconst (v := 0) hx hb dX1_isRegister_14 (by decide) ?_
      exact xb_zr hx hb hr hlocks hP hK hD hS dX1_isRegister_15 rfl (⟨by rw [if_neg (fun q => Int32.not_lt.mpr c7 q.2)], rfl⟩)
    · refine lv_iconst (v := 1) hx hb dX1_isRegister_10 (by decide) ?_
      refine lv_goto (tgt := 15) hx hb dX1_isRegister_11 (by decide) ?_
      exact xb_zr hx hb hr hlocks hP hK hD hS dX1_isRegister_15 rfl (⟨by rw [if_pos ⟨c1, Int32.not_le.mp c7⟩], rfl⟩)
set_option maxHeartbeats 4000000 in
set_option maxRecDepth 100000 in
theorem cE_isT (l : Launch) (D : va_G) {tys : xT} {ws : va_W} {sz : Nat} (r : Int32) : xM l yX1_isTally wsX1_isTally ({ frames := 0, cells := 0, slots := 0, locals := 0 }) D tys ws sz [.int r] (xQi D tys (fun a w => a = (if okT r then 1 else 0) ∧ ws = w)) 0 0 := by
  refine xb_m (cc := cX1_isTally) (maxL := 1) (ret := (some .boolean)) (by decide) rfl (Nat.le_of_ble_eq_true rfl) ?_
  intro p e s m below meth c A ls hx hb hr hml hown hts hlocks hnm hA hP hK hD hS hl
  have hl : lv_has ls 1 [(0, .int r)] := hl
  have hown : s.vm.findClass RX1 = some m.cls := hown
  refine lv_iload_n hx hb dX1_isTally_0 rfl (lv_at hl 0 rfl) ?_
  refine lv_if_lt (tgt := 13) hx hb dX1_isTally_1 (by decide) (fun c1 => ?_) (fun c1 => ?_)
  · refine lv_iconst (v := 0) hx hb dX1_isTally_13 (by decide) ?_
    exact xb_zr hx hb hr hlocks hP hK hD hS dX1_isTally_14 rfl (⟨by rw [if_neg (fun q => q.1 c1)], rfl⟩)
  · refine lv_iload_n hx hb dX1_isTally_4 rfl (lv_at hl 0 rfl) ?_
    refine lv_iconst (v := 4) hx hb dX1_isTally_5 (by decide) ?_
    refine lv_icmp_ge (tgt := 13) hx hb dX1_isTally_6 (by decide) (fun c6 => ?_) (fun c6 => ?_)
    · refine lv_iconst (v := 0) hx hb dX1_isTally_13 (by decide) ?_
      exact xb_zr hx hb hr hlocks hP hK hD hS dX1_isTally_14 rfl (⟨by rw [if_neg (fun q => Int32.not_lt.mpr c6 q.2)], rfl⟩)
    · refine lv_iconst (v := 1) hx hb dX1_isTally_9 (by decide) ?_
      refine lv_goto (tgt := 14) hx hb dX1_isTally_10 (by decide) ?_
      exact xb_zr hx hb hr hlocks hP hK hD hS dX1_isTally_14 rfl (⟨by rw [if_pos ⟨c1, Int32.not_le.mp c6⟩], rfl⟩)
set_option maxHeartbeats 4000000 in
set_option maxRecDepth 100000 in
theorem cE_isW (l : Launch) (D : va_G) {tys : xT} {ws : va_W} {sz : Nat} (r : Int32) : xM l yX1_isWay wsX1_isWay ({ frames := 0, cells := 0, slots := 0, locals := 0 }) D tys ws sz [.int r] (xQi D tys (fun a w => a = (if okW r then 1 else 0) ∧ ws = w)) 0 0 := by
  refine xb_m (cc := cX1_isWay) (maxL := 1) (ret := (some .boolean)) (by decide) rfl (Nat.le_of_ble_eq_true rfl) ?_
  intro p e s m below meth c A ls hx hb hr hml hown hts hlocks hnm hA hP hK hD hS hl
  have hl : lv_has ls 1 [(0, .int r)] := hl
  have hown : s.vm.findClass RX1 = some m.cls := hown
  refine lv_iload_n hx hb dX1_isWay_0 rfl (lv_at hl 0 rfl) ?_
  refine lv_if_lt (tgt := 13) hx hb dX1_isWay_1 (by decide) (fun c1 => ?_) (fun c1 => ?_)
  · refine lv_iconst (v := 0) hx hb dX1_isWay_13 (by decide) ?_
    exact xb_zr hx hb hr hlocks hP hK hD hS dX1_isWay_14 rfl (⟨by rw [if_neg (fun q => q.1 c1)], rfl⟩)
  · refine lv_iload_n hx hb dX1_isWay_4 rfl (lv_at hl 0 rfl) ?_
    refine lv_iconst (v := 3) hx hb dX1_isWay_5 (by decide) ?_
    refine lv_icmp_gt (tgt := 13) hx hb dX1_isWay_6 (by decide) (fun c6 => ?_) (fun c6 => ?_)
    · refine lv_iconst (v := 0) hx hb dX1_isWay_13 (by decide) ?_
      exact xb_zr hx hb hr hlocks hP hK hD hS dX1_isWay_14 rfl (⟨by rw [if_neg (fun q => q.2 c6)], rfl⟩)
    · refine lv_iconst (v := 1) hx hb dX1_isWay_9 (by decide) ?_
      refine lv_goto (tgt := 14) hx hb dX1_isWay_10 (by decide) ?_
      exact xb_zr hx hb hr hlocks hP hK hD hS dX1_isWay_14 rfl (⟨by rw [if_pos ⟨c1, c6⟩], rfl⟩)
set_option maxHeartbeats 4000000 in
set_option maxRecDepth 100000 in
theorem cE_kR (l : Launch) (D : va_G) {tys : xT} {ws : va_W} {sz : Nat} {w0 : va_W} {ad : Nat → Nat} {cA : Nat → ClassId} {g : Nat → Option Nat} {rf : Nat → Int64} {tv : Nat → Int} {o : Int} (X : xd w0 ws tys ad cA g rf tv o) {r : Int32} (ho : zR o) (h : okR r) : xM l yX1_keepInRegister wsX1_keepInRegister ({ frames := 1, cells := 0, slots := 0, locals := 20 }) D tys ws sz [.ref (ad 0), .int r] (xQi D tys (fun a w => xd w0 w tys ad cA g (sp_kR (rf, tv) r o).2.1 (sp_kR (rf, tv) r o).2.2 o ∧ a = (sp_kR (rf, tv) r o).1)) 0 0 := by
  refine xb_m (cc := cX1_keepInRegister) (maxL := 2) (ret := (some .int)) (by decide) rfl (Nat.le_of_ble_eq_true rfl) ?_
  intro p e s m below meth c A ls hx hb hr hml hown hts hlocks hnm hA hP hK hD hS hl
  have hl : lv_has ls 2 [(0, .ref (ad 0)), (1, .int r)] := hl
  have hown : s.vm.findClass RX1 = some m.cls := hown
  refine lv_aload_n hx hb dX1_keepInRegister_0 rfl (lv_at hl 0 rfl) ?_
  refine va_get (D := D) (ci := ciE) (v := .ref (ad 9)) (C := RX1) (T := TX1) (N := 5) hx hb hts (by decide +kernel) hown hK hP 0 (xd_a0 X) rfl 4 (by decide) (hts (.fieldLink RX1 35 "ExactDesk" "outcome" "LExactDesk$Wide;") (by decide +kernel)) (fun _ h9 => h9) rfl dX1_keepInRegister_1 ?_
  refine xb_ri (va_runV (As := []) (rest := []) ⟨hx, hb, hml, hown, hts⟩ (cW_fits l D (xd_a9 X) ho) (cwV 0 hts gX1_keepInRegister_X0_fitsLong rfl rfl rfl (by decide +kernel) ⟨Nat.le_of_ble_eq_true rfl, Nat.le_of_ble_eq_true rfl⟩) (xb_pv hP hK hD rfl rfl (xd_a9 X)) rfl rfl hl.1 rfl (lv_room (Nat.le_of_ble_eq_true rfl)) dX1_keepInRegister_4 ⟨Nat.le_of_ble_eq_true rfl, Nat.le_of_ble_eq_true rfl⟩) hD hS hA (fun r4 ws1 H locs hws1 hP hD hS => ?_)
  obtain ⟨hr4, rfl⟩ := hws1
  refine lv_if_ne (tgt := 26) hx hb dX1_keepInRegister_7 (by decide) (fun c7 => ?_) (fun c7 => ?_)
  · have c7 := bz_1 hr4 c7
    refine lv_aload_n hx hb dX1_keepInRegister_26 rfl (lv_at hl 0 rfl) ?_
    refine va_get (D := D) (ci := ciE) (v := .ref (ad 1)) (C := RX1) (T := TX1) (N := 5) hx hb hts (by decide +kernel) hown hK hP 0 (xd_a0 X) rfl 0 (by decide) (hts (.fieldLink RX1 9 "ExactDesk" "registers" "[J") (by decide +kernel)) (fun _ h9 => h9) rfl dX1_keepInRegister_27 ?_
    refine lv_iload_n hx hb dX1_keepInRegister_30 rfl (lv_at hl 1 rfl) ?_
    refine lv_aload_n hx hb dX1_keepInRegister_31 rfl (lv_at hl 0 rfl) ?_
    refine va_get (D := D) (ci := ciE) (v := .ref (ad 9)) (C := RX1) (T := TX1) (N := 5) hx hb hts (by decide +kernel) hown hK hP 0 (xd_a0 X) rfl 4 (by decide) (hts (.fieldLink RX1 35 "ExactDesk" "outcome" "LExactDesk$Wide;") (by decide +kernel)) (fun _ h9 => h9) rfl dX1_keepInRegister_32 ?_
    refine xb_rl (va_runV (As := []) (rest := [.int r, .ref (ad 1)]) ⟨hx, hb, hml, hown, hts⟩ (cW_low l D (xd_a9 X)) (cwV 0 hts gX1_keepInRegister_X0_lowWord rfl rfl rfl (by decide +kernel) ⟨Nat.le_of_ble_eq_true rfl, Nat.le_of_ble_eq_true rfl⟩) (xb_pv hP hK hD rfl rfl (xd_a9 X)) rfl rfl hl.1 rfl (lv_room (Nat.le_of_ble_eq_true rfl)) dX1_keepInRegister_35 ⟨Nat.le_of_ble_eq_true rfl, Nat.le_of_ble_eq_true rfl⟩) hD hS hA (fun r35 ws2 H locs hws2 hP hD hS => ?_)
    obtain ⟨rfl, rfl⟩ := hws2
    refine xd_lst hx hb hK hP hD hS X h dX1_keepInRegister_38 (fun ws3 H locs X hP hD hS => ?_)
    refine lv_iconst (v := 0) hx hb dX1_keepInRegister_39 (by decide) ?_
    exact xb_ir hx hb hr hlocks hP hK hD hS dX1_keepInRegister_40 (by rw [sp_kR, if_neg (by omega), if_neg (by omega)]; exact ⟨X, rfl⟩)
  · have c7 := bz_0 hr4 c7
    refine lv_aload_n hx hb dX1_keepInRegister_10 rfl (lv_at hl 0 rfl) ?_
    refine va_get (D := D) (ci := ciE) (v := .ref (ad 9)) (C := RX1) (T := TX1) (N := 5) hx hb hts (by decide +kernel) hown hK hP 0 (xd_a0 X) rfl 4 (by decide) (hts (.fieldLink RX1 35 "ExactDesk" "outcome" "LExactDesk$Wide;") (by decide +kernel)) (fun _ h9 => h9) rfl dX1_keepInRegister_11 ?_
    refine xb_ri (va_runV (As := []) (rest := []) ⟨hx, hb, hml, hown, hts⟩ (cW_isneg l D (xd_a9 X) ho) (cwV 0 hts gX1_keepInRegister_X0_isNegative rfl rfl rfl (by decide +kernel) ⟨Nat.le_of_ble_eq_true rfl, Nat.le_of_ble_eq_true rfl⟩) (xb_pv hP hK hD rfl rfl (xd_a9 X)) rfl rfl hl.1 rfl (lv_room (Nat.le_of_ble_eq_true rfl)) dX1_keepInRegister_14 ⟨Nat.le_of_ble_eq_true rfl, Nat.le_of_ble_eq_true rfl⟩) hD hS hA (fun r14 ws2 H locs hws2 hP hD hS => ?_)
    obtain ⟨hr14, rfl⟩ := hws2
    refine lv_if_eq (tgt := 24) hx hb dX1_keepInRegister_17 (by decide) (fun c17 => ?_) (fun c17 => ?_)
    · have c17 := bz_0 hr14 c17
      refine lv_iconst (v := 1) hx hb dX1_keepInRegister_24 (by decide) ?_
      exact xb_ir hx hb hr hlocks hP hK hD hS dX1_keepInRegister_25 (by rw [sp_kR, if_neg (by omega), if_pos (by omega)]; exact ⟨X, rfl⟩)
    · have c17 := bz_1 hr14 c17
      refine lv_iconst (v := 2) hx hb dX1_keepInRegister_20 (by decide) ?_
      refine lv_goto (tgt := 25) hx hb dX1_keepInRegister_21 (by decide) ?_
      exact xb_ir hx hb hr hlocks hP hK hD hS dX1_keepInRegister_25 (by rw [sp_kR, if_pos (by omega)]; exact ⟨X, rfl⟩)
set_option maxHeartbeats 4000000 in
set_option maxRecDepth 100000 in
theorem cE_kT (l : Launch) (D : va_G) {tys : xT} {ws : va_W} {sz : Nat} {w0 : va_W} {ad : Nat → Nat} {cA : Nat → ClassId} {g : Nat → Option Nat} {rf : Nat → Int64} {tv : Nat → Int} {o : Int} (X : xd w0 ws tys ad cA g rf tv o) {t : Int32} (ho : zR o) (h : okT t) : xM l yX1_keepInTally wsX1_keepInTally ({ frames := 2, cells := 0, slots := 0, locals := 44 }) D tys ws sz [.ref (ad 0), .int t] (xQi D tys (fun a w => xd w0 w tys ad cA g (sp_kT (rf, tv) t o).2.1 (sp_kT (rf, tv) t o).2.2 o ∧ a = (sp_kT (rf, tv) t o).1)) 0 0 := by
  refine xb_m (cc := cX1_keepInTally) (maxL := 2) (ret := (some .int)) (by decide) rfl (Nat.le_of_ble_eq_true rfl) ?_
  intro p e s m below meth c A ls hx hb hr hml hown hts hlocks hnm hA hP hK hD hS hl
  have hl : lv_has ls 2 [(0, .ref (ad 0)), (1, .int t)] := hl
  have hown : s.vm.findClass RX1 = some m.cls := hown
  refine lv_aload_n hx hb dX1_keepInTally_0 rfl (lv_at hl 0 rfl) ?_
  refine va_get (D := D) (ci := ciE) (v := .ref (ad 9)) (C := RX1) (T := TX1) (N := 5) hx hb hts (by decide +kernel) hown hK hP 0 (xd_a0 X) rfl 4 (by decide) (hts (.fieldLink RX1 35 "ExactDesk" "outcome" "LExactDesk$Wide;") (by decide +kernel)) (fun _ h9 => h9) rfl dX1_keepInTally_1 ?_
  refine lv_aload_n hx hb dX1_keepInTally_4 rfl (lv_at hl 0 rfl) ?_
  refine va_get (D := D) (ci := ciE) (v := .ref (ad 7)) (C := RX1) (T := TX1) (N := 5) hx hb hts (by decide +kernel) hown hK hP 0 (xd_a0 X) rfl 2 (by decide) (hts (.fieldLink RX1 20 "ExactDesk" "tallyCeiling" "LExactDesk$Wide;") (by decide +kernel)) (fun _ h9 => h9) rfl dX1_keepInTally_5 ?_
  refine xb_ri (va_runV (As := [.ref (ad 7)]) (rest := []) ⟨hx, hb, hml, hown, hts⟩ (cW_ord l D (xd_a9 X) (xd_a7 X) ho (by constructor <;> decide)) (cwV 1 hts gX1_keepInTally_X0_orderTo rfl rfl rfl (by decide +kernel) ⟨Nat.le_of_ble_eq_true rfl, Nat.le_of_ble_eq_true rfl⟩) (xb_pv hP hK hD rfl rfl (xd_a9 X)) rfl rfl hl.1 rfl (lv_room (Nat.le_of_ble_eq_true rfl)) dX1_keepInTally_8 ⟨Nat.le_of_ble_eq_true rfl, Nat.le_of_ble_eq_true rfl⟩) hD hS hA (fun r8 ws1 H locs hws1 hP hD hS => ?_)
  obtain ⟨hr8, rfl⟩ := hws1
  refine lv_if_lt (tgt := 16) hx hb dX1_keepInTally_11 (by decide) (fun c11 => ?_) (fun c11 => ?_)
  · rw [hr8, ord_lt] at c11
    refine lv_aload_n hx hb dX1_keepInTally_16 rfl (lv_at hl 0 rfl) ?_
    refine va_get (D := D) (ci := ciE) (v := .ref (ad 9)) (C := RX1) (T := TX1) (N := 5) hx hb hts (by decide +kernel) hown hK hP 0 (xd_a0 X) rfl 4 (by decide) (hts (.fieldLink RX1 35 "ExactDesk" "outcome" "LExactDesk$Wide;") (by decide +kernel)) (fun _ h9 => h9) rfl dX1_keepInTally_17 ?_
    refine lv_aload_n hx hb dX1_keepInTally_20 rfl (lv_at hl 0 rfl) ?_
    refine va_get (D := D) (ci := ciE) (v := .ref (ad 8)) (C := RX1) (T := TX1) (N := 5) hx hb hts (by decide +kernel) hown hK hP 0 (xd_a0 X) rfl 3 (by decide) (hts (.fieldLink RX1 30 "ExactDesk" "tallyFloor" "LExactDesk$Wide;") (by decide +kernel)) (fun _ h9 => h9) rfl dX1_keepInTally_21 ?_
    refine xb_ri (va_runV (As := [.ref (ad 8)]) (rest := []) ⟨hx, hb, hml, hown, hts⟩ (cW_ord l D (xd_a9 X) (xd_a8 X) ho (by constructor <;> decide)) (cwV 1 hts gX1_keepInTally_X0_orderTo rfl rfl rfl (by decide +kernel) ⟨Nat.le_of_ble_eq_true rfl, Nat.le_of_ble_eq_true rfl⟩) (xb_pv hP hK hD rfl rfl (xd_a9 X)) rfl rfl hl.1 rfl (lv_room (Nat.le_of_ble_eq_true rfl)) dX1_keepInTally_24 ⟨Nat.le_of_ble_eq_true rfl, Nat.le_of_ble_eq_true rfl⟩) hD hS hA (fun r24 ws2 H locs hws2 hP hD hS => ?_)
    obtain ⟨hr24, rfl⟩ := hws2
    refine lv_if_gt (tgt := 32) hx hb dX1_keepInTally_27 (by decide) (fun c27 => ?_) (fun c27 => ?_)
    · rw [hr24, ord_gt] at c27
      refine lv_aload_n hx hb dX1_keepInTally_32 rfl (lv_at hl 0 rfl) ?_
      refine va_get (D := D) (ci := ciE) (v := .ref (ad 2)) (C := RX1) (T := TX1) (N := 5) hx hb hts (by decide +kernel) hown hK hP 0 (xd_a0 X) rfl 1 (by decide) (hts (.fieldLink RX1 15 "ExactDesk" "tallies" "[LExactDesk$Wide;") (by decide +kernel)) (fun _ h9 => h9) rfl dX1_keepInTally_33 ?_
      refine lv_iload_n hx hb dX1_keepInTally_36 rfl (lv_at hl 1 rfl) ?_
      refine xd_ald hx hb hK hP X h dX1_keepInTally_37 ?_
      refine lv_aload_n hx hb dX1_keepInTally_38 rfl (lv_at hl 0 rfl) ?_
      refine va_get (D := D) (ci := ciE) (v := .ref (ad 9)) (C := RX1) (T := TX1) (N := 5) hx hb hts (by decide +kernel) hown hK hP 0 (xd_a0 X) rfl 4 (by decide) (hts (.fieldLink RX1 35 "ExactDesk" "outcome" "LExactDesk$Wide;") (by decide +kernel)) (fun _ h9 => h9) rfl dX1_keepInTally_39 ?_
      refine xb_rv (va_runV (As := [.ref (ad 9)]) (rest := []) ⟨hx, hb, hml, hown, hts⟩ (cW_becomeW l D (xd_tl X (j4 h)) (xd_a9 X) (by have q := (j4 h); omega)) (cwV 1 hts gX1_keepInTally_X0_become_ rfl rfl rfl (by decide +kernel) ⟨Nat.le_of_ble_eq_true rfl, Nat.le_of_ble_eq_true rfl⟩) (xb_pv hP hK hD rfl rfl (xd_tl X (j4 h))) rfl rfl hl.1 rfl (lv_room (Nat.le_of_ble_eq_true rfl)) dX1_keepInTally_42 ⟨Nat.le_of_ble_eq_true rfl, Nat.le_of_ble_eq_true rfl⟩) hD hS hA (fun ws3 H locs hws3 hP hD hS => ?_)
      have X := xd_setT X (j4 h) (by omega) (by omega) hws3
      refine lv_iconst (v := 0) hx hb dX1_keepInTally_45 (by decide) ?_
      exact xb_ir hx hb hr hlocks hP hK hD hS dX1_keepInTally_46 (by rw [sp_kT, if_neg (by omega), if_neg (by omega)]; exact ⟨X, rfl⟩)
    · rw [hr24, ord_gt] at c27
      refine lv_iconst (v := 2) hx hb dX1_keepInTally_30 (by decide) ?_
      exact xb_ir hx hb hr hlocks hP hK hD hS dX1_keepInTally_31 (by rw [sp_kT, if_neg (by omega), if_pos (by omega)]; exact ⟨X, rfl⟩)
  · rw [hr8, ord_lt] at c11
    refine lv_iconst (v := 1) hx hb dX1_keepInTally_14 (by decide) ?_
    exact xb_ir hx hb hr hlocks hP hK hD hS dX1_keepInTally_15 (by rw [sp_kT, if_pos (by omega)]; exact ⟨X, rfl⟩)
set_option maxHeartbeats 4000000 in
set_option maxRecDepth 100000 in
theorem cE_set (l : Launch) (D : va_G) {tys : xT} {ws : va_W} {sz : Nat} {w0 : va_W} {ad : Nat → Nat} {cA : Nat → ClassId} {g : Nat → Option Nat} {rf : Nat → Int64} {tv : Nat → Int} {o : Int} (X : xd w0 ws tys ad cA g rf tv o) (r : Int32) (v : Int64) : xM l yX1_set wsX1_set ({ frames := 1, cells := 0, slots := 0, locals := 20 }) D tys ws sz [.ref (ad 0), .int r, .long v] (xQi D tys (fun a w => ∃ o1, xd w0 w tys ad cA g (sp_set (rf, tv) r v).2.1 (sp_set (rf, tv) r v).2.2 o1 ∧ a = (sp_set (rf, tv) r v).1)) 0 0 := by
  refine xb_m (cc := cX1_set) (maxL := 4) (ret := (some .boolean)) (by decide) rfl (Nat.le_of_ble_eq_true rfl) ?_
  intro p e s m below meth c A ls hx hb hr hml hown hts hlocks hnm hA hP hK hD hS hl
  have hl : lv_has ls 4 [(0, .ref (ad 0)), (1, .int r), (2, .long v)] := hl
  have hown : s.vm.findClass RX1 = some m.cls := hown
  refine lv_iload_n hx hb dX1_set_0 rfl (lv_at hl 1 rfl) ?_
  refine xb_ri (va_runS (As := [.int r]) (rest := []) ⟨hx, hb, hml, hown, hts⟩ (cE_isR l D r) (va_cwS 1 hts gX1_set_X1_isRegister rfl rfl rfl (by decide +kernel) ⟨Nat.le_of_ble_eq_true rfl, Nat.le_of_ble_eq_true rfl⟩) (xb_ps rfl hP hK hD) rfl rfl hl.1 rfl (lv_room (Nat.le_of_ble_eq_true rfl)) dX1_set_1 ⟨Nat.le_of_ble_eq_true rfl, Nat.le_of_ble_eq_true rfl⟩) hD hS hA (fun r1 ws1 H locs hws1 hP hD hS => ?_)
  obtain ⟨hr1, rfl⟩ := hws1
  refine lv_if_ne (tgt := 9) hx hb dX1_set_4 (by decide) (fun c4 => ?_) (fun c4 => ?_)
  · have c4 := bz_1 hr1 c4
    refine lv_aload_n hx hb dX1_set_9 rfl (lv_at hl 0 rfl) ?_
    refine va_get (D := D) (ci := ciE) (v := .ref (ad 1)) (C := RX1) (T := TX1) (N := 5) hx hb hts (by decide +kernel) hown hK hP 0 (xd_a0 X) rfl 0 (by decide) (hts (.fieldLink RX1 9 "ExactDesk" "registers" "[J") (by decide +kernel)) (fun _ h9 => h9) rfl dX1_set_10 ?_
    refine lv_iload_n hx hb dX1_set_13 rfl (lv_at hl 1 rfl) ?_
    refine lv_lload_n hx hb dX1_set_14 rfl (lv_at hl 2 rfl) ?_
    refine xd_lst hx hb hK hP hD hS X c4 dX1_set_15 (fun ws2 H locs X hP hD hS => ?_)
    refine lv_iconst (v := 1) hx hb dX1_set_16 (by decide) ?_
    exact xb_zr hx hb hr hlocks hP hK hD hS dX1_set_17 rfl (by rw [sp_set, if_pos c4]; exact ⟨_, X, rfl⟩)
  · have c4 := bz_0 hr1 c4
    refine lv_iconst (v := 0) hx hb dX1_set_7 (by decide) ?_
    exact xb_zr hx hb hr hlocks hP hK hD hS dX1_set_8 rfl (by rw [sp_set, if_neg c4]; exact ⟨_, X, rfl⟩)
set_option maxHeartbeats 4000000 in
set_option maxRecDepth 100000 in
theorem cE_get (l : Launch) (D : va_G) {tys : xT} {ws : va_W} {sz : Nat} {w0 : va_W} {ad : Nat → Nat} {cA : Nat → ClassId} {g : Nat → Option Nat} {rf : Nat → Int64} {tv : Nat → Int} {o : Int} (X : xd w0 ws tys ad cA g rf tv o) (r : Int32) : xM l yX1_get wsX1_get ({ frames := 1, cells := 0, slots := 0, locals := 20 }) D tys ws sz [.ref (ad 0), .int r] (xQl D tys (fun a w => xd w0 w tys ad cA g rf tv o ∧ a = sp_get (rf, tv) r)) 0 0 := by
  refine xb_m (cc := cX1_get) (maxL := 2) (ret := (some .long)) (by decide) rfl (Nat.le_of_ble_eq_true rfl) ?_
  intro p e s m below meth c A ls hx hb hr hml hown hts hlocks hnm hA hP hK hD hS hl
  have hl : lv_has ls 2 [(0, .ref (ad 0)), (1, .int r)] := hl
  have hown : s.vm.findClass RX1 = some m.cls := hown
  refine lv_iload_n hx hb dX1_get_0 rfl (lv_at hl 1 rfl) ?_
  refine xb_ri (va_runS (As := [.int r]) (rest := []) ⟨hx, hb, hml, hown, hts⟩ (cE_isR l D r) (va_cwS 1 hts gX1_get_X1_isRegister rfl rfl rfl (by decide +kernel) ⟨Nat.le_of_ble_eq_true rfl, Nat.le_of_ble_eq_true rfl⟩) (xb_ps rfl hP hK hD) rfl rfl hl.1 rfl (lv_room (Nat.le_of_ble_eq_true rfl)) dX1_get_1 ⟨Nat.le_of_ble_eq_true rfl, Nat.le_of_ble_eq_true rfl⟩) hD hS hA (fun r1 ws1 H locs hws1 hP hD hS => ?_)
  obtain ⟨hr1, rfl⟩ := hws1
  refine lv_if_eq (tgt := 16) hx hb dX1_get_4 (by decide) (fun c4 => ?_) (fun c4 => ?_)
  · have c4 := bz_0 hr1 c4
    refine lv_lconst (v := 0) hx hb dX1_get_16 (by decide) ?_
    exact xb_lr hx hb hr hlocks hP hK hD hS dX1_get_17 (⟨X, by rw [sp_get, if_neg c4]⟩)
  · have c4 := bz_1 hr1 c4
    refine lv_aload_n hx hb dX1_get_7 rfl (lv_at hl 0 rfl) ?_
    refine va_get (D := D) (ci := ciE) (v := .ref (ad 1)) (C := RX1) (T := TX1) (N := 5) hx hb hts (by decide +kernel) hown hK hP 0 (xd_a0 X) rfl 0 (by decide) (hts (.fieldLink RX1 9 "ExactDesk" "registers" "[J") (by decide +kernel)) (fun _ h9 => h9) rfl dX1_get_8 ?_
    refine lv_iload_n hx hb dX1_get_11 rfl (lv_at hl 1 rfl) ?_
    refine xd_lld hx hb hK hP X c4 dX1_get_12 ?_
    refine lv_goto (tgt := 17) hx hb dX1_get_13 (by decide) ?_
    exact xb_lr hx hb hr hlocks hP hK hD hS dX1_get_17 (⟨X, by rw [sp_get, if_pos c4]⟩)
set_option maxHeartbeats 4000000 in
set_option maxRecDepth 100000 in
theorem cE_add (l : Launch) (D : va_G) {tys : xT} {ws : va_W} {sz : Nat} {w0 : va_W} {ad : Nat → Nat} {cA : Nat → ClassId} {g : Nat → Option Nat} {rf : Nat → Int64} {tv : Nat → Int} {o : Int} (X : xd w0 ws tys ad cA g rf tv o) (r : Int32) (v : Int64) : xM l yX1_add wsX1_add ({ frames := 3, cells := 0, slots := 0, locals := 73 }) D tys ws sz [.ref (ad 0), .int r, .long v] (xQi D tys (fun a w => ∃ o1, xd w0 w tys ad cA g (sp_add (rf, tv) r v).2.1 (sp_add (rf, tv) r v).2.2 o1 ∧ a = (sp_add (rf, tv) r v).1)) 0 0 := by
  refine xb_m (cc := cX1_add) (maxL := 4) (ret := (some .int)) (by decide) rfl (Nat.le_of_ble_eq_true rfl) ?_
  intro p e s m below meth c A ls hx hb hr hml hown hts hlocks hnm hA hP hK hD hS hl
  have hl : lv_has ls 4 [(0, .ref (ad 0)), (1, .int r), (2, .long v)] := hl
  have hown : s.vm.findClass RX1 = some m.cls := hown
  refine lv_iload_n hx hb dX1_add_0 rfl (lv_at hl 1 rfl) ?_
  refine xb_ri (va_runS (As := [.int r]) (rest := []) ⟨hx, hb, hml, hown, hts⟩ (cE_isR l D r) (va_cwS 1 hts gX1_add_X1_isRegister rfl rfl rfl (by decide +kernel) ⟨Nat.le_of_ble_eq_true rfl, Nat.le_of_ble_eq_true rfl⟩) (xb_ps rfl hP hK hD) rfl rfl hl.1 rfl (lv_room (Nat.le_of_ble_eq_true rfl)) dX1_add_1 ⟨Nat.le_of_ble_eq_true rfl, Nat.le_of_ble_eq_true rfl⟩) hD hS hA (fun r1 ws1 H locs hws1 hP hD hS => ?_)
  obtain ⟨hr1, rfl⟩ := hws1
  refine lv_if_ne (tgt := 9) hx hb dX1_add_4 (by decide) (fun c4 => ?_) (fun c4 => ?_)
  · have c4 := bz_1 hr1 c4
    refine lv_aload_n hx hb dX1_add_9 rfl (lv_at hl 0 rfl) ?_
    refine va_get (D := D) (ci := ciE) (v := .ref (ad 9)) (C := RX1) (T := TX1) (N := 5) hx hb hts (by decide +kernel) hown hK hP 0 (xd_a0 X) rfl 4 (by decide) (hts (.fieldLink RX1 35 "ExactDesk" "outcome" "LExactDesk$Wide;") (by decide +kernel)) (fun _ h9 => h9) rfl dX1_add_10 ?_
    refine lv_aload_n hx hb dX1_add_13 rfl (lv_at hl 0 rfl) ?_
    refine va_get (D := D) (ci := ciE) (v := .ref (ad 1)) (C := RX1) (T := TX1) (N := 5) hx hb hts (by decide +kernel) hown hK hP 0 (xd_a0 X) rfl 0 (by decide) (hts (.fieldLink RX1 9 "ExactDesk" "registers" "[J") (by decide +kernel)) (fun _ h9 => h9) rfl dX1_add_14 ?_
    refine lv_iload_n hx hb dX1_add_17 rfl (lv_at hl 1 rfl) ?_
    refine xd_lld hx hb hK hP X c4 dX1_add_18 ?_
    refine xb_rv (va_runV (As := [.long (rf r.toNatClampNeg)]) (rest := []) ⟨hx, hb, hml, hown, hts⟩ (cW_becomeL l D (xd_a9 X) (rf r.toNatClampNeg)) (cwV 1 hts gX1_add_X0_become rfl rfl rfl (by decide +kernel) ⟨Nat.le_of_ble_eq_true rfl, Nat.le_of_ble_eq_true rfl⟩) (xb_pv hP hK hD rfl rfl (xd_a9 X)) rfl rfl hl.1 rfl (lv_room (Nat.le_of_ble_eq_true rfl)) dX1_add_19 ⟨Nat.le_of_ble_eq_true rfl, Nat.le_of_ble_eq_true rfl⟩) hD hS hA (fun ws2 H locs hws2 hP hD hS => ?_)
    have X := xd_setO X hws2
    refine lv_aload_n hx hb dX1_add_22 rfl (lv_at hl 0 rfl) ?_
    refine va_get (D := D) (ci := ciE) (v := .ref (ad 9)) (C := RX1) (T := TX1) (N := 5) hx hb hts (by decide +kernel) hown hK hP 0 (xd_a0 X) rfl 4 (by decide) (hts (.fieldLink RX1 35 "ExactDesk" "outcome" "LExactDesk$Wide;") (by decide +kernel)) (fun _ h9 => h9) rfl dX1_add_23 ?_
    refine lv_lload_n hx hb dX1_add_26 rfl (lv_at hl 2 rfl) ?_
    refine xb_rv (va_runV (As := [.long v]) (rest := []) ⟨hx, hb, hml, hown, hts⟩ (cW_incL l D (xd_a9 X) v (zr_l _) (zr_a _ _)) (cwV 1 hts gX1_add_X0_increase rfl rfl rfl (by decide +kernel) ⟨Nat.le_of_ble_eq_true rfl, Nat.le_of_ble_eq_true rfl⟩) (xb_pv hP hK hD rfl rfl (xd_a9 X)) rfl rfl hl.1 rfl (lv_room (Nat.le_of_ble_eq_true rfl)) dX1_add_27 ⟨Nat.le_of_ble_eq_true rfl, Nat.le_of_ble_eq_true rfl⟩) hD hS hA (fun ws3 H locs hws3 hP hD hS => ?_)
    have X := xd_setO X hws3
    refine lv_aload_n hx hb dX1_add_30 rfl (lv_at hl 0 rfl) ?_
    refine lv_iload_n hx hb dX1_add_31 rfl (lv_at hl 1 rfl) ?_
    refine xb_ri (va_runV (As := [.int r]) (rest := []) ⟨hx, hb, hml, hown, hts⟩ (cE_kR l D X (zr_a _ _) c4) (cwV 1 hts gX1_add_X1_keepInRegister rfl rfl rfl (by decide +kernel) ⟨Nat.le_of_ble_eq_true rfl, Nat.le_of_ble_eq_true rfl⟩) (xb_pv hP hK hD rfl rfl (xd_a0 X)) rfl rfl hl.1 rfl (lv_room (Nat.le_of_ble_eq_true rfl)) dX1_add_32 ⟨Nat.le_of_ble_eq_true rfl, Nat.le_of_ble_eq_true rfl⟩) hD hS hA (fun r32 ws4 H locs hws4 hP hD hS => ?_)
    exact xb_ir hx hb hr hlocks hP hK hD hS dX1_add_35 (by rw [sp_add, if_pos c4]; exact ⟨_, hws4.1, hws4.2⟩)
  · have c4 := bz_0 hr1 c4
    refine lv_iconst (v := (-1)) hx hb dX1_add_7 (by decide) ?_
    exact xb_ir hx hb hr hlocks hP hK hD hS dX1_add_8 (by rw [sp_add, if_neg c4]; exact ⟨_, X, rfl⟩)
set_option maxHeartbeats 4000000 in
set_option maxRecDepth 100000 in
theorem cE_sub (l : Launch) (D : va_G) {tys : xT} {ws : va_W} {sz : Nat} {w0 : va_W} {ad : Nat → Nat} {cA : Nat → ClassId} {g : Nat → Option Nat} {rf : Nat → Int64} {tv : Nat → Int} {o : Int} (X : xd w0 ws tys ad cA g rf tv o) (r : Int32) (v : Int64) : xM l yX1_subtract wsX1_subtract ({ frames := 3, cells := 0, slots := 0, locals := 73 }) D tys ws sz [.ref (ad 0), .int r, .long v] (xQi D tys (fun a w => ∃ o1, xd w0 w tys ad cA g (sp_sub (rf, tv) r v).2.1 (sp_sub (rf, tv) r v).2.2 o1 ∧ a = (sp_sub (rf, tv) r v).1)) 0 0 := by
  refine xb_m (cc := cX1_subtract) (maxL := 4) (ret := (some .int)) (by decide) rfl (Nat.le_of_ble_eq_true rfl) ?_
  intro p e s m below meth c A ls hx hb hr hml hown hts hlocks hnm hA hP hK hD hS hl
  have hl : lv_has ls 4 [(0, .ref (ad 0)), (1, .int r), (2, .long v)] := hl
  have hown : s.vm.findClass RX1 = some m.cls := hown
  refine lv_iload_n hx hb dX1_subtract_0 rfl (lv_at hl 1 rfl) ?_
  refine xb_ri (va_runS (As := [.int r]) (rest := []) ⟨hx, hb, hml, hown, hts⟩ (cE_isR l D r) (va_cwS 1 hts gX1_subtract_X1_isRegister rfl rfl rfl (by decide +kernel) ⟨Nat.le_of_ble_eq_true rfl, Nat.le_of_ble_eq_true rfl⟩) (xb_ps rfl hP hK hD) rfl rfl hl.1 rfl (lv_room (Nat.le_of_ble_eq_true rfl)) dX1_subtract_1 ⟨Nat.le_of_ble_eq_true rfl, Nat.le_of_ble_eq_true rfl⟩) hD hS hA (fun r1 ws1 H locs hws1 hP hD hS => ?_)
  obtain ⟨hr1, rfl⟩ := hws1
  refine lv_if_ne (tgt := 9) hx hb dX1_subtract_4 (by decide) (fun c4 => ?_) (fun c4 => ?_)
  · have c4 := bz_1 hr1 c4
    refine lv_aload_n hx hb dX1_subtract_9 rfl (lv_at hl 0 rfl) ?_
    refine va_get (D := D) (ci := ciE) (v := .ref (ad 9)) (C := RX1) (T := TX1) (N := 5) hx hb hts (by decide +kernel) hown hK hP 0 (xd_a0 X) rfl 4 (by decide) (hts (.fieldLink RX1 35 "ExactDesk" "outcome" "LExactDesk$Wide;") (by decide +kernel)) (fun _ h9 => h9) rfl dX1_subtract_10 ?_
    refine lv_lload_n hx hb dX1_subtract_13 rfl (lv_at hl 2 rfl) ?_
    refine xb_rv (va_runV (As := [.long v]) (rest := []) ⟨hx, hb, hml, hown, hts⟩ (cW_becomeL l D (xd_a9 X) v) (cwV 1 hts gX1_subtract_X0_become rfl rfl rfl (by decide +kernel) ⟨Nat.le_of_ble_eq_true rfl, Nat.le_of_ble_eq_true rfl⟩) (xb_pv hP hK hD rfl rfl (xd_a9 X)) rfl rfl hl.1 rfl (lv_room (Nat.le_of_ble_eq_true rfl)) dX1_subtract_14 ⟨Nat.le_of_ble_eq_true rfl, Nat.le_of_ble_eq_true rfl⟩) hD hS hA (fun ws2 H locs hws2 hP hD hS => ?_)
    have X := xd_setO X hws2
    refine lv_aload_n hx hb dX1_subtract_17 rfl (lv_at hl 0 rfl) ?_
    refine va_get (D := D) (ci := ciE) (v := .ref (ad 9)) (C := RX1) (T := TX1) (N := 5) hx hb hts (by decide +kernel) hown hK hP 0 (xd_a0 X) rfl 4 (by decide) (hts (.fieldLink RX1 35 "ExactDesk" "outcome" "LExactDesk$Wide;") (by decide +kernel)) (fun _ h9 => h9) rfl dX1_subtract_18 ?_
    refine xb_rv (va_runV (As := []) (rest := []) ⟨hx, hb, hml, hown, hts⟩ (cW_neg l D (xd_a9 X) (zr_l _) (zr_n _)) (cwV 0 hts gX1_subtract_X0_negate rfl rfl rfl (by decide +kernel) ⟨Nat.le_of_ble_eq_true rfl, Nat.le_of_ble_eq_true rfl⟩) (xb_pv hP hK hD rfl rfl (xd_a9 X)) rfl rfl hl.1 rfl (lv_room (Nat.le_of_ble_eq_true rfl)) dX1_subtract_21 ⟨Nat.le_of_ble_eq_true rfl, Nat.le_of_ble_eq_true rfl⟩) hD hS hA (fun ws3 H locs hws3 hP hD hS => ?_)
    have X := xd_setO X hws3
    refine lv_aload_n hx hb dX1_subtract_24 rfl (lv_at hl 0 rfl) ?_
    refine va_get (D := D) (ci := ciE) (v := .ref (ad 9)) (C := RX1) (T := TX1) (N := 5) hx hb hts (by decide +kernel) hown hK hP 0 (xd_a0 X) rfl 4 (by decide) (hts (.fieldLink RX1 35 "ExactDesk" "outcome" "LExactDesk$Wide;") (by decide +kernel)) (fun _ h9 => h9) rfl dX1_subtract_25 ?_
    refine lv_aload_n hx hb dX1_subtract_28 rfl (lv_at hl 0 rfl) ?_
    refine va_get (D := D) (ci := ciE) (v := .ref (ad 1)) (C := RX1) (T := TX1) (N := 5) hx hb hts (by decide +kernel) hown hK hP 0 (xd_a0 X) rfl 0 (by decide) (hts (.fieldLink RX1 9 "ExactDesk" "registers" "[J") (by decide +kernel)) (fun _ h9 => h9) rfl dX1_subtract_29 ?_
    refine lv_iload_n hx hb dX1_subtract_32 rfl (lv_at hl 1 rfl) ?_
    refine xd_lld hx hb hK hP X c4 dX1_subtract_33 ?_
    refine xb_rv (va_runV (As := [.long (rf r.toNatClampNeg)]) (rest := []) ⟨hx, hb, hml, hown, hts⟩ (cW_incL l D (xd_a9 X) (rf r.toNatClampNeg) (zr_n _) (zr_s _ _)) (cwV 1 hts gX1_subtract_X0_increase rfl rfl rfl (by decide +kernel) ⟨Nat.le_of_ble_eq_true rfl, Nat.le_of_ble_eq_true rfl⟩) (xb_pv hP hK hD rfl rfl (xd_a9 X)) rfl rfl hl.1 rfl (lv_room (Nat.le_of_ble_eq_true rfl)) dX1_subtract_34 ⟨Nat.le_of_ble_eq_true rfl, Nat.le_of_ble_eq_true rfl⟩) hD hS hA (fun ws4 H locs hws4 hP hD hS => ?_)
    have X := xd_setO X hws4
    refine lv_aload_n hx hb dX1_subtract_37 rfl (lv_at hl 0 rfl) ?_
    refine lv_iload_n hx hb dX1_subtract_38 rfl (lv_at hl 1 rfl) ?_
    refine xb_ri (va_runV (As := [.int r]) (rest := []) ⟨hx, hb, hml, hown, hts⟩ (cE_kR l D X (zr_s _ _) c4) (cwV 1 hts gX1_subtract_X1_keepInRegister rfl rfl rfl (by decide +kernel) ⟨Nat.le_of_ble_eq_true rfl, Nat.le_of_ble_eq_true rfl⟩) (xb_pv hP hK hD rfl rfl (xd_a0 X)) rfl rfl hl.1 rfl (lv_room (Nat.le_of_ble_eq_true rfl)) dX1_subtract_39 ⟨Nat.le_of_ble_eq_true rfl, Nat.le_of_ble_eq_true rfl⟩) hD hS hA (fun r39 ws5 H locs hws5 hP hD hS => ?_)
    exact xb_ir hx hb hr hlocks hP hK hD hS dX1_subtract_42 (by rw [sp_sub, if_pos c4, Int.sub_eq_add_neg, Int.add_comm]; exact ⟨_, hws5.1, hws5.2⟩)
  · have c4 := bz_0 hr1 c4
    refine lv_iconst (v := (-1)) hx hb dX1_subtract_7 (by decide) ?_
    exact xb_ir hx hb hr hlocks hP hK hD hS dX1_subtract_8 (by rw [sp_sub, if_neg c4]; exact ⟨_, X, rfl⟩)
set_option maxHeartbeats 4000000 in
set_option maxRecDepth 100000 in
theorem cE_times (l : Launch) (D : va_G) {tys : xT} {ws : va_W} {sz : Nat} {w0 : va_W} {ad : Nat → Nat} {cA : Nat → ClassId} {g : Nat → Option Nat} {rf : Nat → Int64} {tv : Nat → Int} {o : Int} (X : xd w0 ws tys ad cA g rf tv o) (r : Int32) (v : Int64) : xM l yX1_times wsX1_times ({ frames := 2, cells := 0, slots := 0, locals := 41 }) D tys ws sz [.ref (ad 0), .int r, .long v] (xQi D tys (fun a w => ∃ o1, xd w0 w tys ad cA g (sp_times (rf, tv) r v).2.1 (sp_times (rf, tv) r v).2.2 o1 ∧ a = (sp_times (rf, tv) r v).1)) 0 0 := by
  refine xb_m (cc := cX1_times) (maxL := 4) (ret := (some .int)) (by decide) rfl (Nat.le_of_ble_eq_true rfl) ?_
  intro p e s m below meth c A ls hx hb hr hml hown hts hlocks hnm hA hP hK hD hS hl
  have hl : lv_has ls 4 [(0, .ref (ad 0)), (1, .int r), (2, .long v)] := hl
  have hown : s.vm.findClass RX1 = some m.cls := hown
  refine lv_iload_n hx hb dX1_times_0 rfl (lv_at hl 1 rfl) ?_
  refine xb_ri (va_runS (As := [.int r]) (rest := []) ⟨hx, hb, hml, hown, hts⟩ (cE_isR l D r) (va_cwS 1 hts gX1_times_X1_isRegister rfl rfl rfl (by decide +kernel) ⟨Nat.le_of_ble_eq_true rfl, Nat.le_of_ble_eq_true rfl⟩) (xb_ps rfl hP hK hD) rfl rfl hl.1 rfl (lv_room (Nat.le_of_ble_eq_true rfl)) dX1_times_1 ⟨Nat.le_of_ble_eq_true rfl, Nat.le_of_ble_eq_true rfl⟩) hD hS hA (fun r1 ws1 H locs hws1 hP hD hS => ?_)
  obtain ⟨hr1, rfl⟩ := hws1
  refine lv_if_ne (tgt := 9) hx hb dX1_times_4 (by decide) (fun c4 => ?_) (fun c4 => ?_)
  · have c4 := bz_1 hr1 c4
    refine lv_aload_n hx hb dX1_times_9 rfl (lv_at hl 0 rfl) ?_
    refine va_get (D := D) (ci := ciE) (v := .ref (ad 9)) (C := RX1) (T := TX1) (N := 5) hx hb hts (by decide +kernel) hown hK hP 0 (xd_a0 X) rfl 4 (by decide) (hts (.fieldLink RX1 35 "ExactDesk" "outcome" "LExactDesk$Wide;") (by decide +kernel)) (fun _ h9 => h9) rfl dX1_times_10 ?_
    refine lv_aload_n hx hb dX1_times_13 rfl (lv_at hl 0 rfl) ?_
    refine va_get (D := D) (ci := ciE) (v := .ref (ad 1)) (C := RX1) (T := TX1) (N := 5) hx hb hts (by decide +kernel) hown hK hP 0 (xd_a0 X) rfl 0 (by decide) (hts (.fieldLink RX1 9 "ExactDesk" "registers" "[J") (by decide +kernel)) (fun _ h9 => h9) rfl dX1_times_14 ?_
    refine lv_iload_n hx hb dX1_times_17 rfl (lv_at hl 1 rfl) ?_
    refine xd_lld hx hb hK hP X c4 dX1_times_18 ?_
    refine lv_lload_n hx hb dX1_times_19 rfl (lv_at hl 2 rfl) ?_
    refine xb_rv (va_runV (As := [.long (rf r.toNatClampNeg), .long v]) (rest := []) ⟨hx, hb, hml, hown, hts⟩ (cW_prod l D (xd_a9 X) (rf r.toNatClampNeg) v) (cwV 2 hts gX1_times_X0_becomeProduct rfl rfl rfl (by decide +kernel) ⟨Nat.le_of_ble_eq_true rfl, Nat.le_of_ble_eq_true rfl⟩) (xb_pv hP hK hD rfl rfl (xd_a9 X)) rfl rfl hl.1 rfl (lv_room (Nat.le_of_ble_eq_true rfl)) dX1_times_20 ⟨Nat.le_of_ble_eq_true rfl, Nat.le_of_ble_eq_true rfl⟩) hD hS hA (fun ws2 H locs hws2 hP hD hS => ?_)
    have X := xd_setO X hws2
    refine lv_aload_n hx hb dX1_times_23 rfl (lv_at hl 0 rfl) ?_
    refine lv_iload_n hx hb dX1_times_24 rfl (lv_at hl 1 rfl) ?_
    refine xb_ri (va_runV (As := [.int r]) (rest := []) ⟨hx, hb, hml, hown, hts⟩ (cE_kR l D X (zr_m _ _) c4) (cwV 1 hts gX1_times_X1_keepInRegister rfl rfl rfl (by decide +kernel) ⟨Nat.le_of_ble_eq_true rfl, Nat.le_of_ble_eq_true rfl⟩) (xb_pv hP hK hD rfl rfl (xd_a0 X)) rfl rfl hl.1 rfl (lv_room (Nat.le_of_ble_eq_true rfl)) dX1_times_25 ⟨Nat.le_of_ble_eq_true rfl, Nat.le_of_ble_eq_true rfl⟩) hD hS hA (fun r25 ws3 H locs hws3 hP hD hS => ?_)
    exact xb_ir hx hb hr hlocks hP hK hD hS dX1_times_28 (by rw [sp_times, if_pos c4]; exact ⟨_, hws3.1, hws3.2⟩)
  · have c4 := bz_0 hr1 c4
    refine lv_iconst (v := (-1)) hx hb dX1_times_7 (by decide) ?_
    exact xb_ir hx hb hr hlocks hP hK hD hS dX1_times_8 (by rw [sp_times, if_neg c4]; exact ⟨_, X, rfl⟩)
