-- the rows of ExactDesk, two (laid by wip/whole/gen_desk2.py)
set_option maxHeartbeats 4000000 in
set_option maxRecDepth 100000 in
theorem cE_rA (l : Launch) (D : va_G) {tys : xT} {ws : va_W} {sz : Nat} (r d : Int64) (ng wy : Int32) {P : Prop} [Decidable P] (hng : ng = if P then 1 else 0) (hw : okW wy) (h1 : uN r < uN d) (h2 : uN d ≤ 9223372036854775808) : xM l yX1_roundsAwayFromZero wsX1_roundsAwayFromZero ({ frames := 0, cells := 0, slots := 0, locals := 0 }) D tys ws sz [.long r, .long d, .int ng, .int wy] (xQi D tys (fun a w => a = (if rq_up (uN r) (uN d) P wy then 1 else 0) ∧ ws = w)) 0 0 := by
  refine xb_m (cc := cX1_roundsAwayFromZero) (maxL := 6) (ret := (some .boolean)) (by decide) rfl (Nat.le_of_ble_eq_true rfl) ?_
  intro p e s m below meth c A ls hx hb hr hml hown hts hlocks hnm hA hP hK hD hS hl
  have hl : lv_has ls 6 [(0, .long r), (2, .long d), (4, .int ng), (5, .int wy)] := hl
  have hown : s.vm.findClass RX1 = some m.cls := hown
  refine lv_iload hx hb dX1_roundsAwayFromZero_0 (lv_at hl 3 rfl) ?_
  rcases okW_c hw with rfl | rfl | rfl | rfl
  · refine lv_tableIn (tgt := 28) hx hb dX1_roundsAwayFromZero_2 (by decide) (by decide) rfl (by decide) ?_
    refine lv_iload hx hb dX1_roundsAwayFromZero_28 (lv_at hl 2 rfl) ?_
    refine lv_if_eq (tgt := 43) hx hb dX1_roundsAwayFromZero_30 (by decide) (fun c30 => ?_) (fun c30 => ?_)
    · have c30 := bz_0 hng c30
      refine lv_iconst (v := 0) hx hb dX1_roundsAwayFromZero_43 (by decide) ?_
      exact xb_zr hx hb hr hlocks hP hK hD hS dX1_roundsAwayFromZero_44 rfl (⟨by rw [if_neg (fun q => c30 ((rq0 _ _ _).mp q).1)], rfl⟩)
    · have c30 := bz_1 hng c30
      refine lv_lload_n hx hb dX1_roundsAwayFromZero_33 rfl (lv_at hl 0 rfl) ?_
      refine lv_lconst (v := 0) hx hb dX1_roundsAwayFromZero_34 (by decide) ?_
      refine W.lcmp hx hb dX1_roundsAwayFromZero_35 ?_
      refine lv_if_eq (tgt := 43) hx hb dX1_roundsAwayFromZero_36 (by decide) (fun c36 => ?_) (fun c36 => ?_)
      · rw [lg_cmp_eq] at c36
        refine lv_iconst (v := 0) hx hb dX1_roundsAwayFromZero_43 (by decide) ?_
        exact xb_zr hx hb hr hlocks hP hK hD hS dX1_roundsAwayFromZero_44 rfl (⟨by rw [if_neg (fun q => un_e0 c36 ((rq0 _ _ _).mp q).2)], rfl⟩)
      · rw [lg_cmp_eq] at c36
        refine lv_iconst (v := 1) hx hb dX1_roundsAwayFromZero_39 (by decide) ?_
        refine lv_goto (tgt := 44) hx hb dX1_roundsAwayFromZero_40 (by decide) ?_
        exact xb_zr hx hb hr hlocks hP hK hD hS dX1_roundsAwayFromZero_44 rfl (⟨by rw [if_pos ((rq0 _ _ _).mpr ⟨c30, un_ne c36⟩)], rfl⟩)
  · refine lv_tableIn (tgt := 45) hx hb dX1_roundsAwayFromZero_2 (by decide) (by decide) rfl (by decide) ?_
    refine lv_iload hx hb dX1_roundsAwayFromZero_45 (lv_at hl 2 rfl) ?_
    refine lv_if_ne (tgt := 60) hx hb dX1_roundsAwayFromZero_47 (by decide) (fun c47 => ?_) (fun c47 => ?_)
    · have c47 := bz_1 hng c47
      refine lv_iconst (v := 0) hx hb dX1_roundsAwayFromZero_60 (by decide) ?_
      exact xb_zr hx hb hr hlocks hP hK hD hS dX1_roundsAwayFromZero_61 rfl (⟨by rw [if_neg (fun q => ((rq1 _ _ _).mp q).1 c47)], rfl⟩)
    · have c47 := bz_0 hng c47
      refine lv_lload_n hx hb dX1_roundsAwayFromZero_50 rfl (lv_at hl 0 rfl) ?_
      refine lv_lconst (v := 0) hx hb dX1_roundsAwayFromZero_51 (by decide) ?_
      refine W.lcmp hx hb dX1_roundsAwayFromZero_52 ?_
      refine lv_if_eq (tgt := 60) hx hb dX1_roundsAwayFromZero_53 (by decide) (fun c53 => ?_) (fun c53 => ?_)
      · rw [lg_cmp_eq] at c53
        refine lv_iconst (v := 0) hx hb dX1_roundsAwayFromZero_60 (by decide) ?_
        exact xb_zr hx hb hr hlocks hP hK hD hS dX1_roundsAwayFromZero_61 rfl (⟨by rw [if_neg (fun q => un_e0 c53 ((rq1 _ _ _).mp q).2)], rfl⟩)
      · rw [lg_cmp_eq] at c53
        refine lv_iconst (v := 1) hx hb dX1_roundsAwayFromZero_56 (by decide) ?_
        refine lv_goto (tgt := 61) hx hb dX1_roundsAwayFromZero_57 (by decide) ?_
        exact xb_zr hx hb hr hlocks hP hK hD hS dX1_roundsAwayFromZero_61 rfl (⟨by rw [if_pos ((rq1 _ _ _).mpr ⟨c47, un_ne c53⟩)], rfl⟩)
  · refine lv_tableIn (tgt := 62) hx hb dX1_roundsAwayFromZero_2 (by decide) (by decide) rfl (by decide) ?_
    refine lv_iconst (v := 0) hx hb dX1_roundsAwayFromZero_62 (by decide) ?_
    exact xb_zr hx hb hr hlocks hP hK hD hS dX1_roundsAwayFromZero_63 rfl (⟨by rw [if_neg (rq2 _ _ _)], rfl⟩)
  · refine lv_tableOut (tgt := 64) hx hb dX1_roundsAwayFromZero_2 (by decide) (by decide) ?_
    refine lv_lload_n hx hb dX1_roundsAwayFromZero_64 rfl (lv_at hl 0 rfl) ?_
    refine lv_lload_n hx hb dX1_roundsAwayFromZero_65 rfl (lv_at hl 1 rfl) ?_
    refine lv_lconst (v := 1) hx hb dX1_roundsAwayFromZero_66 (by decide) ?_
    refine lv_lsub hx hb dX1_roundsAwayFromZero_67 ?_
    refine lv_lload_n hx hb dX1_roundsAwayFromZero_68 rfl (lv_at hl 0 rfl) ?_
    refine lv_lsub hx hb dX1_roundsAwayFromZero_69 ?_
    refine W.lcmp hx hb dX1_roundsAwayFromZero_70 ?_
    refine lv_if_le (tgt := 78) hx hb dX1_roundsAwayFromZero_71 (by decide) (fun c71 => ?_) (fun c71 => ?_)
    · rw [lg_cmp_le] at c71
      refine lv_iconst (v := 0) hx hb dX1_roundsAwayFromZero_78 (by decide) ?_
      exact xb_zr hx hb hr hlocks hP hK hD hS dX1_roundsAwayFromZero_79 rfl (⟨by rw [half_c h1 h2] at c71; rw [if_neg (by rw [rq3]; omega)], rfl⟩)
    · rw [lg_cmp_le] at c71
      refine lv_iconst (v := 1) hx hb dX1_roundsAwayFromZero_74 (by decide) ?_
      refine lv_goto (tgt := 79) hx hb dX1_roundsAwayFromZero_75 (by decide) ?_
      exact xb_zr hx hb hr hlocks hP hK hD hS dX1_roundsAwayFromZero_79 rfl (⟨by rw [half_c h1 h2] at c71; rw [if_pos (by rw [rq3]; omega)], rfl⟩)
set_option maxHeartbeats 4000000 in
set_option maxRecDepth 100000 in
theorem cE_dO (l : Launch) (D : va_G) {tys : xT} {ws : va_W} {sz : Nat} {w0 : va_W} {ad : Nat → Nat} {cA : Nat → ClassId} {g : Nat → Option Nat} {rf : Nat → Int64} {tv : Nat → Int} {o : Int} (X : xd w0 ws tys ad cA g rf tv o) (cv : Int64) (wy : Int32) (b1 : -85070591730234615865843651857942052864 ≤ o) (b2 : o ≤ 85070591730234615865843651857942052864) (hc : ¬ cv = 0) (hw : okW wy) : xM l yX1_divideOutcome wsX1_divideOutcome ({ frames := 3, cells := 0, slots := 0, locals := 73 }) D tys ws sz [.ref (ad 0), .long cv, .int wy] (xQv D tys (fun w => xd w0 w tys ad cA g rf tv (rq o cv.toInt wy))) 0 0 := by
  refine xb_m (cc := cX1_divideOutcome) (maxL := 9) (ret := none) (by decide) rfl (Nat.le_of_ble_eq_true rfl) ?_
  intro p e s m below meth c A ls hx hb hr hml hown hts hlocks hnm hA hP hK hD hS hl
  have hl : lv_has ls 9 [(0, .ref (ad 0)), (1, .long cv), (3, .int wy)] := hl
  have hown : s.vm.findClass RX1 = some m.cls := hown
  have t81 : ∀ (ng : Int32) (o1 : Int) (ws1 : va_W) (H : Heap) (locs : List Loc) (ls : Array Slot), ng = (if rq_ng o cv.toInt then 1 else 0) → o1 = rq_sz o cv.toInt wy →  xd w0 ws1 tys ad cA g rf tv o1 → va_P D vwCl ws1 H → va_D A ws1 → va_S A s.heap H locs → lv_has ls 9 [(0, .ref (ad 0)), (4, .int ng)] → W p l e ({ frames := 3, cells := 0, slots := 0, locals := 73 }) s m [.ref (ad 0), .long cv, .int wy].toArray below meth c H locs 0 0 (MQ below (xQv D tys (fun w => xd w0 w tys ad cA g rf tv (rq o cv.toInt wy)) A) [.ref (ad 0), .long cv, .int wy].toArray s 0 0 A) (F0 m 81 ls []) := by
    intro ng o1 ws1 H locs ls hng ho1 X hP hD hS hl
    have hq := rq_szb (d := cv.toInt) (w := wy) b1 b2
    rw [← ho1] at hq
    refine lv_iload hx hb dX1_divideOutcome_81 (lv_at hl 1 rfl) ?_
    refine lv_if_eq (tgt := 93) hx hb dX1_divideOutcome_83 (by decide) (fun c83 => ?_) (fun c83 => ?_)
    · have c83 := bz_0 hng c83
      exact xb_vr hx hb hr hlocks hP hK hD hS dX1_divideOutcome_93 (by rw [rq, if_neg c83, ← ho1]; exact X)
    · have c83 := bz_1 hng c83
      refine lv_aload_n hx hb dX1_divideOutcome_86 rfl (lv_at hl 0 rfl) ?_
      refine va_get (D := D) (ci := ciE) (v := .ref (ad 9)) (C := RX1) (T := TX1) (N := 5) hx hb hts (by decide +kernel) hown hK hP 0 (xd_a0 X) rfl 4 (by decide) (hts (.fieldLink RX1 35 "ExactDesk" "outcome" "LExactDesk$Wide;") (by decide +kernel)) (fun _ h9 => h9) rfl dX1_divideOutcome_87 ?_
      refine xb_rv (va_runV (As := []) (rest := []) ⟨hx, hb, hml, hown, hts⟩ (cW_neg l D (xd_a9 X) ⟨by omega, by omega⟩ ⟨by omega, by omega⟩) (cwV 0 hts gX1_divideOutcome_X0_negate rfl rfl rfl (by decide +kernel) ⟨Nat.le_of_ble_eq_true rfl, Nat.le_of_ble_eq_true rfl⟩) (xb_pv hP hK hD rfl rfl (xd_a9 X)) rfl rfl hl.1 rfl (lv_room (Nat.le_of_ble_eq_true rfl)) dX1_divideOutcome_90 ⟨Nat.le_of_ble_eq_true rfl, Nat.le_of_ble_eq_true rfl⟩) hD hS hA (fun ws2 H locs hws2 hP hD hS => ?_)
      have X := xd_setO X hws2
      exact xb_vr hx hb hr hlocks hP hK hD hS dX1_divideOutcome_93 (by rw [rq, if_pos c83, ← ho1]; exact X)
  have t40 : ∀ (ng : Int32) (sz : Int64) (ws1 : va_W) (H : Heap) (locs : List Loc) (ls : Array Slot), ng = (if rq_ng o cv.toInt then 1 else 0) → uN sz = cv.toInt.natAbs →  xd w0 ws1 tys ad cA g rf tv o → va_P D vwCl ws1 H → va_D A ws1 → va_S A s.heap H locs → lv_has ls 9 [(0, .ref (ad 0)), (1, .long cv), (3, .int wy), (4, .int ng)] → W p l e ({ frames := 3, cells := 0, slots := 0, locals := 73 }) s m [.ref (ad 0), .long cv, .int wy].toArray below meth c H locs 0 0 (MQ below (xQv D tys (fun w => xd w0 w tys ad cA g rf tv (rq o cv.toInt wy)) A) [.ref (ad 0), .long cv, .int wy].toArray s 0 0 A) (F0 m 40 ls [.long sz]) := by
    intro ng sz ws1 H locs ls hng hsz X hP hD hS hl
    refine lv_lstore (lv' := [(5, .long sz), (0, .ref (ad 0)), (1, .long cv), (3, .int wy), (4, .int ng)]) hx hb dX1_divideOutcome_40 hl (by decide) rfl (fun ls hl => ?_)
    refine lv_aload_n hx hb dX1_divideOutcome_42 rfl (lv_at hl 1 rfl) ?_
    refine va_get (D := D) (ci := ciE) (v := .ref (ad 9)) (C := RX1) (T := TX1) (N := 5) hx hb hts (by decide +kernel) hown hK hP 0 (xd_a0 X) rfl 4 (by decide) (hts (.fieldLink RX1 35 "ExactDesk" "outcome" "LExactDesk$Wide;") (by decide +kernel)) (fun _ h9 => h9) rfl dX1_divideOutcome_43 ?_
    refine xb_rv (va_runV (As := []) (rest := []) ⟨hx, hb, hml, hown, hts⟩ (cW_drop l D (xd_a9 X) ⟨by omega, by omega⟩ ⟨by omega, by omega⟩) (cwV 0 hts gX1_divideOutcome_X0_dropSign rfl rfl rfl (by decide +kernel) ⟨Nat.le_of_ble_eq_true rfl, Nat.le_of_ble_eq_true rfl⟩) (xb_pv hP hK hD rfl rfl (xd_a9 X)) rfl rfl hl.1 rfl (lv_room (Nat.le_of_ble_eq_true rfl)) dX1_divideOutcome_46 ⟨Nat.le_of_ble_eq_true rfl, Nat.le_of_ble_eq_true rfl⟩) hD hS hA (fun ws2 H locs hws2 hP hD hS => ?_)
    have X := xd_setO X hws2
    refine lv_aload_n hx hb dX1_divideOutcome_49 rfl (lv_at hl 1 rfl) ?_
    refine va_get (D := D) (ci := ciE) (v := .ref (ad 9)) (C := RX1) (T := TX1) (N := 5) hx hb hts (by decide +kernel) hown hK hP 0 (xd_a0 X) rfl 4 (by decide) (hts (.fieldLink RX1 35 "ExactDesk" "outcome" "LExactDesk$Wide;") (by decide +kernel)) (fun _ h9 => h9) rfl dX1_divideOutcome_50 ?_
    refine lv_lload hx hb dX1_divideOutcome_53 (lv_at hl 0 rfl) ?_
    refine xb_rl (va_runV (As := [.long sz]) (rest := []) ⟨hx, hb, hml, hown, hts⟩ (cW_div l D (xd_a9 X) sz (by omega) ⟨by omega, by omega⟩ (by rw [hsz]; exact l_ne hc) (by rw [hsz]; exact l_abs cv)) (cwV 1 hts gX1_divideOutcome_X0_divideBy rfl rfl rfl (by decide +kernel) ⟨Nat.le_of_ble_eq_true rfl, Nat.le_of_ble_eq_true rfl⟩) (xb_pv hP hK hD rfl rfl (xd_a9 X)) rfl rfl hl.1 rfl (lv_room (Nat.le_of_ble_eq_true rfl)) dX1_divideOutcome_55 ⟨Nat.le_of_ble_eq_true rfl, Nat.le_of_ble_eq_true rfl⟩) hD hS hA (fun r55 ws3 H locs hws3 hP hD hS => ?_)
    obtain ⟨hws3, hr55⟩ := hws3
    have X := xd_setO X hws3
    obtain ⟨e1, e2⟩ := sz_fin hsz hr55
    have hlt : uN r55 < uN sz := by rw [e1, hsz]; exact Nat.mod_lt _ (l_ne hc)
    have hbd := div_b (n := o.natAbs) (d := uN sz)
    refine lv_lstore (lv' := [(7, .long r55), (5, .long sz), (0, .ref (ad 0)), (1, .long cv), (3, .int wy), (4, .int ng)]) hx hb dX1_divideOutcome_58 hl (by decide) rfl (fun ls hl => ?_)
    refine lv_lload hx hb dX1_divideOutcome_60 (lv_at hl 0 rfl) ?_
    refine lv_lload hx hb dX1_divideOutcome_62 (lv_at hl 1 rfl) ?_
    refine lv_iload hx hb dX1_divideOutcome_64 (lv_at hl 5 rfl) ?_
    refine lv_iload_n hx hb dX1_divideOutcome_66 rfl (lv_at hl 4 rfl) ?_
    refine xb_ri (va_runS (As := [.long r55, .long sz, .int ng, .int wy]) (rest := []) ⟨hx, hb, hml, hown, hts⟩ (cE_rA l D r55 sz ng wy hng hw hlt (by rw [hsz]; exact l_abs cv)) (va_cwS 4 hts gX1_divideOutcome_X1_roundsAwayFromZero rfl rfl rfl (by decide +kernel) ⟨Nat.le_of_ble_eq_true rfl, Nat.le_of_ble_eq_true rfl⟩) (xb_ps rfl hP hK hD) rfl rfl hl.1 rfl (lv_room (Nat.le_of_ble_eq_true rfl)) dX1_divideOutcome_67 ⟨Nat.le_of_ble_eq_true rfl, Nat.le_of_ble_eq_true rfl⟩) hD hS hA (fun r67 ws4 H locs hws4 hP hD hS => ?_)
    obtain ⟨hr67, rfl⟩ := hws4
    refine lv_if_eq (tgt := 81) hx hb dX1_divideOutcome_70 (by decide) (fun c70 => ?_) (fun c70 => ?_)
    · have c70 := bz_0 hr67 c70
      exact t81 ng _ ws3 H locs ls hng (by rw [rq_sz, e2, if_neg (by rw [← e1, ← hsz]; exact c70)]; omega) X hP hD hS (lv_sub hl [2, 5] rfl)
    · have c70 := bz_1 hr67 c70
      refine lv_aload_n hx hb dX1_divideOutcome_73 rfl (lv_at hl 2 rfl) ?_
      refine va_get (D := D) (ci := ciE) (v := .ref (ad 9)) (C := RX1) (T := TX1) (N := 5) hx hb hts (by decide +kernel) hown hK hP 0 (xd_a0 X) rfl 4 (by decide) (hts (.fieldLink RX1 35 "ExactDesk" "outcome" "LExactDesk$Wide;") (by decide +kernel)) (fun _ h9 => h9) rfl dX1_divideOutcome_74 ?_
      refine lv_lconst (v := 1) hx hb dX1_divideOutcome_77 (by decide) ?_
      refine xb_rv (va_runV (As := [.long 1]) (rest := []) ⟨hx, hb, hml, hown, hts⟩ (cW_incL l D (xd_a9 X) 1 ⟨by omega, by omega⟩ ⟨by have e : (1 : Int64).toInt = 1 := (by decide); omega, by have e : (1 : Int64).toInt = 1 := (by decide); omega⟩) (cwV 1 hts gX1_divideOutcome_X0_increase rfl rfl rfl (by decide +kernel) ⟨Nat.le_of_ble_eq_true rfl, Nat.le_of_ble_eq_true rfl⟩) (xb_pv hP hK hD rfl rfl (xd_a9 X)) rfl rfl hl.1 rfl (lv_room (Nat.le_of_ble_eq_true rfl)) dX1_divideOutcome_78 ⟨Nat.le_of_ble_eq_true rfl, Nat.le_of_ble_eq_true rfl⟩) hD hS hA (fun ws5 H locs hws5 hP hD hS => ?_)
      have X := xd_setO X hws5
      exact t81 ng _ ws5 H locs ls hng (by rw [rq_sz, e2, if_pos (by rw [← e1, ← hsz]; exact c70)]; rfl) X hP hD hS (lv_sub hl [2, 5] rfl)
  have t26 : ∀ (ng : Int32) (ws1 : va_W) (H : Heap) (locs : List Loc) (ls : Array Slot), ng = (if rq_ng o cv.toInt then 1 else 0) →  xd w0 ws1 tys ad cA g rf tv o → va_P D vwCl ws1 H → va_D A ws1 → va_S A s.heap H locs → lv_has ls 9 [(0, .ref (ad 0)), (1, .long cv), (3, .int wy)] → W p l e ({ frames := 3, cells := 0, slots := 0, locals := 73 }) s m [.ref (ad 0), .long cv, .int wy].toArray below meth c H locs 0 0 (MQ below (xQv D tys (fun w => xd w0 w tys ad cA g rf tv (rq o cv.toInt wy)) A) [.ref (ad 0), .long cv, .int wy].toArray s 0 0 A) (F0 m 26 ls [.int ng]) := by
    intro ng ws1 H locs ls hng X hP hD hS hl
    refine lv_istore (lv' := [(4, .int ng), (0, .ref (ad 0)), (1, .long cv), (3, .int wy)]) hx hb dX1_divideOutcome_26 hl (by decide) rfl (fun ls hl => ?_)
    refine lv_lload_n hx hb dX1_divideOutcome_28 rfl (lv_at hl 2 rfl) ?_
    refine lv_lconst (v := 0) hx hb dX1_divideOutcome_29 (by decide) ?_
    refine W.lcmp hx hb dX1_divideOutcome_30 ?_
    refine lv_if_ge (tgt := 39) hx hb dX1_divideOutcome_31 (by decide) (fun c31 => ?_) (fun c31 => ?_)
    · rw [lg_cmp_ge] at c31
      refine lv_lload_n hx hb dX1_divideOutcome_39 rfl (lv_at hl 2 rfl) ?_
      exact t40 ng _ ws1 H locs ls hng (sz_pos c31) X hP hD hS (lv_sub hl [1, 2, 3, 0] rfl)
    · rw [lg_cmp_ge] at c31
      refine lv_lload_n hx hb dX1_divideOutcome_34 rfl (lv_at hl 2 rfl) ?_
      refine lv_lneg hx hb dX1_divideOutcome_35 ?_
      refine lv_goto (tgt := 40) hx hb dX1_divideOutcome_36 (by decide) ?_
      exact t40 ng _ ws1 H locs ls hng (sz_neg c31) X hP hD hS (lv_sub hl [1, 2, 3, 0] rfl)
  refine lv_aload_n hx hb dX1_divideOutcome_0 rfl (lv_at hl 0 rfl) ?_
  refine va_get (D := D) (ci := ciE) (v := .ref (ad 9)) (C := RX1) (T := TX1) (N := 5) hx hb hts (by decide +kernel) hown hK hP 0 (xd_a0 X) rfl 4 (by decide) (hts (.fieldLink RX1 35 "ExactDesk" "outcome" "LExactDesk$Wide;") (by decide +kernel)) (fun _ h9 => h9) rfl dX1_divideOutcome_1 ?_
  refine xb_ri (va_runV (As := []) (rest := []) ⟨hx, hb, hml, hown, hts⟩ (cW_isneg l D (xd_a9 X) ⟨by omega, by omega⟩) (cwV 0 hts gX1_divideOutcome_X0_isNegative rfl rfl rfl (by decide +kernel) ⟨Nat.le_of_ble_eq_true rfl, Nat.le_of_ble_eq_true rfl⟩) (xb_pv hP hK hD rfl rfl (xd_a9 X)) rfl rfl hl.1 rfl (lv_room (Nat.le_of_ble_eq_true rfl)) dX1_divideOutcome_4 ⟨Nat.le_of_ble_eq_true rfl, Nat.le_of_ble_eq_true rfl⟩) hD hS hA (fun r4 ws1 H locs hws1 hP hD hS => ?_)
  obtain ⟨hr4, rfl⟩ := hws1
  refine lv_lload_n hx hb dX1_divideOutcome_7 rfl (lv_at hl 1 rfl) ?_
  refine lv_lconst (v := 0) hx hb dX1_divideOutcome_8 (by decide) ?_
  refine W.lcmp hx hb dX1_divideOutcome_9 ?_
  refine lv_if_ge (tgt := 17) hx hb dX1_divideOutcome_10 (by decide) (fun c10 => ?_) (fun c10 => ?_)
  · rw [lg_cmp_ge] at c10
    refine lv_iconst (v := 0) hx hb dX1_divideOutcome_17 (by decide) ?_
    refine lv_icmp_eq (tgt := 25) hx hb dX1_divideOutcome_18 (by decide) (fun c18 => ?_) (fun c18 => ?_)
    · refine lv_iconst (v := 0) hx hb dX1_divideOutcome_25 (by decide) ?_
      exact t26 0 ws H locs ls (by rw [l_neg] at c10; have q := bz_0 hr4 c18; rw [if_neg (by omega)]) X hP hD hS (lv_sub hl [0, 1, 2] rfl)
    · refine lv_iconst (v := 1) hx hb dX1_divideOutcome_21 (by decide) ?_
      refine lv_goto (tgt := 26) hx hb dX1_divideOutcome_22 (by decide) ?_
      exact t26 1 ws H locs ls (by rw [l_neg] at c10; have q := bz_1 hr4 c18; rw [if_pos (by omega)]) X hP hD hS (lv_sub hl [0, 1, 2] rfl)
  · rw [lg_cmp_ge] at c10
    refine lv_iconst (v := 1) hx hb dX1_divideOutcome_13 (by decide) ?_
    refine lv_goto (tgt := 18) hx hb dX1_divideOutcome_14 (by decide) ?_
    refine lv_icmp_eq (tgt := 25) hx hb dX1_divideOutcome_18 (by decide) (fun c18 => ?_) (fun c18 => ?_)
    · refine lv_iconst (v := 0) hx hb dX1_divideOutcome_25 (by decide) ?_
      exact t26 0 ws H locs ls (by rw [l_neg] at c10; have q := bz_x hr4 c18; rw [if_neg (by omega)]) X hP hD hS (lv_sub hl [0, 1, 2] rfl)
    · refine lv_iconst (v := 1) hx hb dX1_divideOutcome_21 (by decide) ?_
      refine lv_goto (tgt := 26) hx hb dX1_divideOutcome_22 (by decide) ?_
      exact t26 1 ws H locs ls (by rw [l_neg] at c10; have q := bz_y hr4 c18; rw [if_pos (by omega)]) X hP hD hS (lv_sub hl [0, 1, 2] rfl)
set_option maxHeartbeats 4000000 in
set_option maxRecDepth 100000 in
theorem cE_lH (l : Launch) (D : va_G) {tys : xT} {ws : va_W} {sz : Nat} {w0 : va_W} {ad : Nat → Nat} {cA : Nat → ClassId} {g : Nat → Option Nat} {rf : Nat → Int64} {tv : Nat → Int} {o : Int} (X : xd w0 ws tys ad cA g rf tv o) {j : Nat} (hj : j < 4) : xM l yX1_lowerHalf wsX1_lowerHalf ({ frames := 2, cells := 0, slots := 0, locals := 48 }) D tys ws sz [.ref (ad 0), .ref (ad (3 + j))] (xQl D tys (fun a w => (∃ o1, xd w0 w tys ad cA g rf tv o1) ∧ uN a = (tv j).natAbs % 1000000000000000000)) 0 0 := by
  refine xb_m (cc := cX1_lowerHalf) (maxL := 2) (ret := (some .long)) (by decide) rfl (Nat.le_of_ble_eq_true rfl) ?_
  intro p e s m below meth c A ls hx hb hr hml hown hts hlocks hnm hA hP hK hD hS hl
  have hl : lv_has ls 2 [(0, .ref (ad 0)), (1, .ref (ad (3 + j)))] := hl
  have hown : s.vm.findClass RX1 = some m.cls := hown
  have hbb := zr_x (xd_lo X hj) (xd_hi X hj)
  refine lv_aload_n hx hb dX1_lowerHalf_0 rfl (lv_at hl 0 rfl) ?_
  refine va_get (D := D) (ci := ciE) (v := .ref (ad 9)) (C := RX1) (T := TX1) (N := 5) hx hb hts (by decide +kernel) hown hK hP 0 (xd_a0 X) rfl 4 (by decide) (hts (.fieldLink RX1 35 "ExactDesk" "outcome" "LExactDesk$Wide;") (by decide +kernel)) (fun _ h9 => h9) rfl dX1_lowerHalf_1 ?_
  refine lv_aload_n hx hb dX1_lowerHalf_4 rfl (lv_at hl 1 rfl) ?_
  refine xb_rv (va_runV (As := [.ref (ad (3 + j))]) (rest := []) ⟨hx, hb, hml, hown, hts⟩ (cW_becomeW l D (xd_a9 X) (xd_tl X hj) (by have q := hj; omega)) (cwV 1 hts gX1_lowerHalf_X0_become_ rfl rfl rfl (by decide +kernel) ⟨Nat.le_of_ble_eq_true rfl, Nat.le_of_ble_eq_true rfl⟩) (xb_pv hP hK hD rfl rfl (xd_a9 X)) rfl rfl hl.1 rfl (lv_room (Nat.le_of_ble_eq_true rfl)) dX1_lowerHalf_5 ⟨Nat.le_of_ble_eq_true rfl, Nat.le_of_ble_eq_true rfl⟩) hD hS hA (fun ws1 H locs hws1 hP hD hS => ?_)
  have X := xd_setO X hws1
  refine lv_aload_n hx hb dX1_lowerHalf_8 rfl (lv_at hl 0 rfl) ?_
  refine va_get (D := D) (ci := ciE) (v := .ref (ad 9)) (C := RX1) (T := TX1) (N := 5) hx hb hts (by decide +kernel) hown hK hP 0 (xd_a0 X) rfl 4 (by decide) (hts (.fieldLink RX1 35 "ExactDesk" "outcome" "LExactDesk$Wide;") (by decide +kernel)) (fun _ h9 => h9) rfl dX1_lowerHalf_9 ?_
  refine xb_rv (va_runV (As := []) (rest := []) ⟨hx, hb, hml, hown, hts⟩ (cW_drop l D (xd_a9 X) hbb.1 hbb.2.1) (cwV 0 hts gX1_lowerHalf_X0_dropSign rfl rfl rfl (by decide +kernel) ⟨Nat.le_of_ble_eq_true rfl, Nat.le_of_ble_eq_true rfl⟩) (xb_pv hP hK hD rfl rfl (xd_a9 X)) rfl rfl hl.1 rfl (lv_room (Nat.le_of_ble_eq_true rfl)) dX1_lowerHalf_12 ⟨Nat.le_of_ble_eq_true rfl, Nat.le_of_ble_eq_true rfl⟩) hD hS hA (fun ws2 H locs hws2 hP hD hS => ?_)
  have X := xd_setO X hws2
  refine lv_aload_n hx hb dX1_lowerHalf_15 rfl (lv_at hl 0 rfl) ?_
  refine va_get (D := D) (ci := ciE) (v := .ref (ad 9)) (C := RX1) (T := TX1) (N := 5) hx hb hts (by decide +kernel) hown hK hP 0 (xd_a0 X) rfl 4 (by decide) (hts (.fieldLink RX1 35 "ExactDesk" "outcome" "LExactDesk$Wide;") (by decide +kernel)) (fun _ h9 => h9) rfl dX1_lowerHalf_16 ?_
  refine lv_ldc2 (v := 1000000000000000000) hx hb hown (hts (.constantLong RX1 24 (1000000000000000000)) (by decide +kernel)) dX1_lowerHalf_19 ?_
  refine xb_rl (va_runV (As := [.long 1000000000000000000]) (rest := []) ⟨hx, hb, hml, hown, hts⟩ (cW_div l D (xd_a9 X) 1000000000000000000 (by omega) hbb.2.2 (by decide) (by decide)) (cwV 1 hts gX1_lowerHalf_X0_divideBy rfl rfl rfl (by decide +kernel) ⟨Nat.le_of_ble_eq_true rfl, Nat.le_of_ble_eq_true rfl⟩) (xb_pv hP hK hD rfl rfl (xd_a9 X)) rfl rfl hl.1 rfl (lv_room (Nat.le_of_ble_eq_true rfl)) dX1_lowerHalf_22 ⟨Nat.le_of_ble_eq_true rfl, Nat.le_of_ble_eq_true rfl⟩) hD hS hA (fun r22 ws3 H locs hws3 hP hD hS => ?_)
  obtain ⟨hws3, hr22⟩ := hws3
  have X := xd_setO X hws3
  exact xb_lr hx hb hr hlocks hP hK hD hS dX1_lowerHalf_25 (⟨⟨_, X⟩, by rw [un_18] at hr22; omega⟩)
set_option maxHeartbeats 4000000 in
set_option maxRecDepth 100000 in
theorem cE_uH (l : Launch) (D : va_G) {tys : xT} {ws : va_W} {sz : Nat} {w0 : va_W} {ad : Nat → Nat} {cA : Nat → ClassId} {g : Nat → Option Nat} {rf : Nat → Int64} {tv : Nat → Int} {o : Int} (X : xd w0 ws tys ad cA g rf tv o) {j : Nat} (hj : j < 4) : xM l yX1_upperHalf wsX1_upperHalf ({ frames := 2, cells := 0, slots := 0, locals := 48 }) D tys ws sz [.ref (ad 0), .ref (ad (3 + j))] (xQl D tys (fun a w => (∃ o1, xd w0 w tys ad cA g rf tv o1) ∧ uN a = (tv j).natAbs / 1000000000000000000)) 0 0 := by
  refine xb_m (cc := cX1_upperHalf) (maxL := 2) (ret := (some .long)) (by decide) rfl (Nat.le_of_ble_eq_true rfl) ?_
  intro p e s m below meth c A ls hx hb hr hml hown hts hlocks hnm hA hP hK hD hS hl
  have hl : lv_has ls 2 [(0, .ref (ad 0)), (1, .ref (ad (3 + j)))] := hl
  have hown : s.vm.findClass RX1 = some m.cls := hown
  have hbb := zr_x (xd_lo X hj) (xd_hi X hj)
  refine lv_aload_n hx hb dX1_upperHalf_0 rfl (lv_at hl 0 rfl) ?_
  refine va_get (D := D) (ci := ciE) (v := .ref (ad 9)) (C := RX1) (T := TX1) (N := 5) hx hb hts (by decide +kernel) hown hK hP 0 (xd_a0 X) rfl 4 (by decide) (hts (.fieldLink RX1 35 "ExactDesk" "outcome" "LExactDesk$Wide;") (by decide +kernel)) (fun _ h9 => h9) rfl dX1_upperHalf_1 ?_
  refine lv_aload_n hx hb dX1_upperHalf_4 rfl (lv_at hl 1 rfl) ?_
  refine xb_rv (va_runV (As := [.ref (ad (3 + j))]) (rest := []) ⟨hx, hb, hml, hown, hts⟩ (cW_becomeW l D (xd_a9 X) (xd_tl X hj) (by have q := hj; omega)) (cwV 1 hts gX1_upperHalf_X0_become_ rfl rfl rfl (by decide +kernel) ⟨Nat.le_of_ble_eq_true rfl, Nat.le_of_ble_eq_true rfl⟩) (xb_pv hP hK hD rfl rfl (xd_a9 X)) rfl rfl hl.1 rfl (lv_room (Nat.le_of_ble_eq_true rfl)) dX1_upperHalf_5 ⟨Nat.le_of_ble_eq_true rfl, Nat.le_of_ble_eq_true rfl⟩) hD hS hA (fun ws1 H locs hws1 hP hD hS => ?_)
  have X := xd_setO X hws1
  refine lv_aload_n hx hb dX1_upperHalf_8 rfl (lv_at hl 0 rfl) ?_
  refine va_get (D := D) (ci := ciE) (v := .ref (ad 9)) (C := RX1) (T := TX1) (N := 5) hx hb hts (by decide +kernel) hown hK hP 0 (xd_a0 X) rfl 4 (by decide) (hts (.fieldLink RX1 35 "ExactDesk" "outcome" "LExactDesk$Wide;") (by decide +kernel)) (fun _ h9 => h9) rfl dX1_upperHalf_9 ?_
  refine xb_rv (va_runV (As := []) (rest := []) ⟨hx, hb, hml, hown, hts⟩ (cW_drop l D (xd_a9 X) hbb.1 hbb.2.1) (cwV 0 hts gX1_upperHalf_X0_dropSign rfl rfl rfl (by decide +kernel) ⟨Nat.le_of_ble_eq_true rfl, Nat.le_of_ble_eq_true rfl⟩) (xb_pv hP hK hD rfl rfl (xd_a9 X)) rfl rfl hl.1 rfl (lv_room (Nat.le_of_ble_eq_true rfl)) dX1_upperHalf_12 ⟨Nat.le_of_ble_eq_true rfl, Nat.le_of_ble_eq_true rfl⟩) hD hS hA (fun ws2 H locs hws2 hP hD hS => ?_)
  have X := xd_setO X hws2
  refine lv_aload_n hx hb dX1_upperHalf_15 rfl (lv_at hl 0 rfl) ?_
  refine va_get (D := D) (ci := ciE) (v := .ref (ad 9)) (C := RX1) (T := TX1) (N := 5) hx hb hts (by decide +kernel) hown hK hP 0 (xd_a0 X) rfl 4 (by decide) (hts (.fieldLink RX1 35 "ExactDesk" "outcome" "LExactDesk$Wide;") (by decide +kernel)) (fun _ h9 => h9) rfl dX1_upperHalf_16 ?_
  refine lv_ldc2 (v := 1000000000000000000) hx hb hown (hts (.constantLong RX1 24 (1000000000000000000)) (by decide +kernel)) dX1_upperHalf_19 ?_
  refine xb_rl (va_runV (As := [.long 1000000000000000000]) (rest := []) ⟨hx, hb, hml, hown, hts⟩ (cW_div l D (xd_a9 X) 1000000000000000000 (by omega) hbb.2.2 (by decide) (by decide)) (cwV 1 hts gX1_upperHalf_X0_divideBy rfl rfl rfl (by decide +kernel) ⟨Nat.le_of_ble_eq_true rfl, Nat.le_of_ble_eq_true rfl⟩) (xb_pv hP hK hD rfl rfl (xd_a9 X)) rfl rfl hl.1 rfl (lv_room (Nat.le_of_ble_eq_true rfl)) dX1_upperHalf_22 ⟨Nat.le_of_ble_eq_true rfl, Nat.le_of_ble_eq_true rfl⟩) hD hS hA (fun r22 ws3 H locs hws3 hP hD hS => ?_)
  obtain ⟨hws3, hr22⟩ := hws3
  have X := xd_setO X hws3
  refine lv_pop2_2 hx hb dX1_upperHalf_25 rfl ?_
  refine lv_aload_n hx hb dX1_upperHalf_26 rfl (lv_at hl 0 rfl) ?_
  refine va_get (D := D) (ci := ciE) (v := .ref (ad 9)) (C := RX1) (T := TX1) (N := 5) hx hb hts (by decide +kernel) hown hK hP 0 (xd_a0 X) rfl 4 (by decide) (hts (.fieldLink RX1 35 "ExactDesk" "outcome" "LExactDesk$Wide;") (by decide +kernel)) (fun _ h9 => h9) rfl dX1_upperHalf_27 ?_
  refine xb_rl (va_runV (As := []) (rest := []) ⟨hx, hb, hml, hown, hts⟩ (cW_low l D (xd_a9 X)) (cwV 0 hts gX1_upperHalf_X0_lowWord rfl rfl rfl (by decide +kernel) ⟨Nat.le_of_ble_eq_true rfl, Nat.le_of_ble_eq_true rfl⟩) (xb_pv hP hK hD rfl rfl (xd_a9 X)) rfl rfl hl.1 rfl (lv_room (Nat.le_of_ble_eq_true rfl)) dX1_upperHalf_30 ⟨Nat.le_of_ble_eq_true rfl, Nat.le_of_ble_eq_true rfl⟩) hD hS hA (fun r30 ws4 H locs hws4 hP hD hS => ?_)
  obtain ⟨rfl, rfl⟩ := hws4
  exact xb_lr hx hb hr hlocks hP hK hD hS dX1_upperHalf_33 (⟨⟨_, X⟩, by have q := zl_un (((tv j).natAbs : Int) / (uN 1000000000000000000 : Int)); have q1 := xd_lo X hj; have q2 := xd_hi X hj; rw [un_18] at q ⊢; omega⟩)
set_option maxHeartbeats 4000000 in
set_option maxRecDepth 100000 in
theorem cE_dL (l : Launch) (D : va_G) {tys : xT} {ws : va_W} {sz : Nat} (h : Int64) (h1 : uN h < 1000000000000000000) : xM l yX1_decimalLength wsX1_decimalLength ({ frames := 0, cells := 0, slots := 0, locals := 0 }) D tys ws sz [.long h] (xQi D tys (fun a w => (∃ L, a = nI L ∧ L ≤ 18 ∧ sLen (uN h) L) ∧ ws = w)) 0 0 := by
  refine xb_m (cc := cX1_decimalLength) (maxL := 5) (ret := (some .int)) (by decide) rfl (Nat.le_of_ble_eq_true rfl) ?_
  intro p e s m below meth c A ls hx hb hr hml hown hts hlocks hnm hA hP hK hD hS hl
  have hl : lv_has ls 5 [(0, .long h)] := hl
  have hown : s.vm.findClass RX1 = some m.cls := hown
  have loop : ∀ (n L : Nat) (x2 : Int32) (x3 : Int64) (ls : Array Slot), 1 ≤ L → x2 = nI L → x3.toInt = ((10 ^ L : Nat) : Int) → L ≤ 18 ∧ 18 < L + n → (L = 1 ∨ 10 ^ (L - 1) ≤ uN h) → lv_has ls 5 [(0, .long h), (2, .int x2), (3, .long x3)] → W p l e ({ frames := 0, cells := 0, slots := 0, locals := 0 }) s m [.long h].toArray below meth c s.heap [] 0 0 (MQ below (xQi D tys (fun a w => (∃ L, a = nI L ∧ L ≤ 18 ∧ sLen (uN h) L) ∧ ws = w) A) [.long h].toArray s 0 0 A) (F0 m 6 ls []) := by
    intro n
    induction n with
    | zero =>
      intro L x2 x3 ls i1 ex2 ex3 i4
      omega
    | succ n ih =>
      intro L x2 x3 ls i1 ex2 ex3 i4 iv hl
      refine lv_iload_n hx hb dX1_decimalLength_6 rfl (lv_at hl 1 rfl) ?_
      refine lv_bipush (v := 18) hx hb dX1_decimalLength_7 (by decide) ?_
      refine lv_icmp_ge (tgt := 30) hx hb dX1_decimalLength_9 (by decide) (fun c9 => ?_) (fun c9 => ?_)
      · refine lv_iload_n hx hb dX1_decimalLength_30 rfl (lv_at hl 1 rfl) ?_
        exact xb_ir hx hb hr hlocks hP hK hD hS dX1_decimalLength_31 (⟨⟨L, ex2, by omega, by omega, by have q : 18 ≤ L := (nI_leI (a := 18) (by decide) (by omega)).mp (by rw [← ex2]; exact c9); have q2 : L = 18 := (by omega); subst q2; exact h1, iv⟩, rfl⟩)
      · refine lv_lload_n hx hb dX1_decimalLength_12 rfl (lv_at hl 0 rfl) ?_
        refine lv_lload_n hx hb dX1_decimalLength_13 rfl (lv_at hl 2 rfl) ?_
        refine W.lcmp hx hb dX1_decimalLength_14 ?_
        refine lv_if_lt (tgt := 30) hx hb dX1_decimalLength_15 (by decide) (fun c15 => ?_) (fun c15 => ?_)
        · rw [lg_cmp_lt] at c15
          refine lv_iload_n hx hb dX1_decimalLength_30 rfl (lv_at hl 1 rfl) ?_
          exact xb_ir hx hb hr hlocks hP hK hD hS dX1_decimalLength_31 (⟨⟨L, ex2, by omega, by omega, by rw [Int64.lt_iff_toInt_lt, ex3] at c15; have q1 : 10 ^ L ≤ 1000000000000000000 := Nat.pow_le_pow_right (show 0 < 10 by decide) (show L ≤ 18 by omega); have q3 : h.toInt = (uN h : Int) := un_eq (by have := un_c h; omega) (by omega) (by omega); omega, iv⟩, rfl⟩)
        · rw [lg_cmp_lt] at c15
          refine lv_lload_n hx hb dX1_decimalLength_18 rfl (lv_at hl 2 rfl) ?_
          refine lv_ldc2 (v := 10) hx hb hown (hts (.constantLong RX1 115 (10)) (by decide +kernel)) dX1_decimalLength_19 ?_
          refine lv_lmul hx hb dX1_decimalLength_22 ?_
          refine lv_lstore_n (lv' := [(3, .long (x3 * 10)), (0, .long h), (2, .int x2)]) hx hb dX1_decimalLength_23 rfl hl (by decide) rfl (fun ls hl => ?_)
          refine lv_iinc (v := x2 + 1) (lv' := [(2, .int (x2 + 1)), (3, .long (x3 * 10)), (0, .long h)]) hx hb dX1_decimalLength_24 hl (k := 2) rfl (by rfl) (by decide) rfl (fun ls hl => ?_)
          refine lv_goto (tgt := 6) hx hb dX1_decimalLength_27 (by decide) ?_
          have q0 : ¬ 18 ≤ L := fun q => c9 (by rw [ex2]; exact (nI_leI (a := 18) (by decide) (by omega)).mpr q)
          have q1 : 10 ^ L ≤ 100000000000000000 := Nat.pow_le_pow_right (show 0 < 10 by decide) (show L ≤ 17 by omega)
          have q2 : x3.toInt ≤ h.toInt := by rw [Int64.lt_iff_toInt_lt] at c15; omega
          have q3 : h.toInt = (uN h : Int) := un_eq (by have := un_c h; omega) (by omega) (by omega)
          refine ih (L + 1) (x2 + 1) (x3 * 10) ls (by omega) (by rw [ex2]; exact nI_1 L) ?_ (by omega) (Or.inr ?_) (lv_sub hl [2, 0, 1] rfl)
          · have q4 := un_mul x3 10
            have q5 : (10 : Int64).toInt = 10 := (by decide); rw [q5, ex3] at q4
            rw [Nat.pow_succ]
            exact un_eq (by omega) (by omega) (by omega)
          · rw [Nat.add_sub_cancel]; omega
  refine lv_iconst (v := 1) hx hb dX1_decimalLength_0 (by decide) ?_
  refine lv_istore_n (lv' := [(2, .int 1), (0, .long h)]) hx hb dX1_decimalLength_1 rfl hl (by decide) rfl (fun ls hl => ?_)
  refine lv_ldc2 (v := 10) hx hb hown (hts (.constantLong RX1 115 (10)) (by decide +kernel)) dX1_decimalLength_2 ?_
  refine lv_lstore_n (lv' := [(3, .long 10), (2, .int 1), (0, .long h)]) hx hb dX1_decimalLength_5 rfl hl (by decide) rfl (fun ls hl => ?_)
  exact loop 18 1 1 10 ls (by omega) rfl (by decide) (by omega) (Or.inl rfl) (lv_sub hl [2, 1, 0] rfl)
set_option maxHeartbeats 4000000 in
set_option maxRecDepth 100000 in
theorem cE_dD (l : Launch) (D : va_G) {tys : xT} {ws : va_W} {sz : Nat} (h : Int64) (k : Int32) {K : Nat} (h1 : uN h < 1000000000000000000) (hk : k = nI K) (hK : K < 18) : xM l yX1_decimalDigit wsX1_decimalDigit ({ frames := 0, cells := 0, slots := 0, locals := 0 }) D tys ws sz [.long h, .int k] (xQi D tys (fun a w => a = nI (uN h / 10 ^ K % 10) ∧ ws = w)) 0 0 := by
  refine xb_m (cc := cX1_decimalDigit) (maxL := 6) (ret := (some .int)) (by decide) rfl (Nat.le_of_ble_eq_true rfl) ?_
  intro p e s m below meth c A ls hx hb hr hml hown hts hlocks hnm hA hP hKK hD hS hl
  have hl : lv_has ls 6 [(0, .long h), (2, .int k)] := hl
  have hown : s.vm.findClass RX1 = some m.cls := hown
  have loop : ∀ (n i : Nat) (x3 : Int64) (x5 : Int32) (ls : Array Slot), i ≤ K → K < i + n → x5 = nI i → x3 = lN (uN h / 10 ^ i) → lv_has ls 6 [(0, .long h), (2, .int k), (3, .long x3), (5, .int x5)] → W p l e ({ frames := 0, cells := 0, slots := 0, locals := 0 }) s m [.long h, .int k].toArray below meth c s.heap [] 0 0 (MQ below (xQi D tys (fun a w => a = nI (uN h / 10 ^ K % 10) ∧ ws = w) A) [.long h, .int k].toArray s 0 0 A) (F0 m 5 ls []) := by
    intro n
    induction n with
    | zero =>
      intro i x3 x5 ls i1 i2
      omega
    | succ n ih =>
      intro i x3 x5 ls i1 i2 ex5 ex3 hl
      refine lv_iload hx hb dX1_decimalDigit_5 (lv_at hl 3 rfl) ?_
      refine lv_iload_n hx hb dX1_decimalDigit_7 rfl (lv_at hl 1 rfl) ?_
      refine lv_icmp_ge (tgt := 23) hx hb dX1_decimalDigit_8 (by decide) (fun c8 => ?_) (fun c8 => ?_)
      · refine lv_lload_n hx hb dX1_decimalDigit_23 rfl (lv_at hl 2 rfl) ?_
        refine lv_ldc2 (v := 10) hx hb hown (hts (.constantLong RX1 115 (10)) (by decide +kernel)) dX1_decimalDigit_24 ?_
        refine lv_lrem hx hb dX1_decimalDigit_27 (by decide) ?_
        refine lv_l2i hx hb dX1_decimalDigit_28 rfl ?_
        exact xb_ir hx hb hr hlocks hP hKK hD hS dX1_decimalDigit_29 (⟨by have q : K ≤ i := (nI_leI (by omega) (by omega)).mp (by rw [← hk, ← ex5]; exact c8); have q2 : i = K := (by omega); subst q2; have qd : uN h / 10 ^ i ≤ uN h := Nat.div_le_self _ _; rw [ex3, show (10 : Int64) = lN 10 from rfl, pk_lRem (by omega) (by decide) (by decide), lN_i], rfl⟩)
      · refine lv_lload_n hx hb dX1_decimalDigit_11 rfl (lv_at hl 2 rfl) ?_
        refine lv_ldc2 (v := 10) hx hb hown (hts (.constantLong RX1 115 (10)) (by decide +kernel)) dX1_decimalDigit_12 ?_
        refine lv_ldiv hx hb dX1_decimalDigit_15 (by decide) ?_
        refine lv_lstore_n (lv' := [(3, .long (x3 / 10)), (0, .long h), (2, .int k), (5, .int x5)]) hx hb dX1_decimalDigit_16 rfl hl (by decide) rfl (fun ls hl => ?_)
        refine lv_iinc (v := x5 + 1) (lv' := [(5, .int (x5 + 1)), (3, .long (x3 / 10)), (0, .long h), (2, .int k)]) hx hb dX1_decimalDigit_17 hl (k := 3) rfl (by rfl) (by decide) rfl (fun ls hl => ?_)
        refine lv_goto (tgt := 5) hx hb dX1_decimalDigit_20 (by decide) ?_
        have q0 : ¬ K ≤ i := fun q => c8 (by rw [hk, ex5]; exact (nI_leI (by omega) (by omega)).mpr q)
        have qd : uN h / 10 ^ i ≤ uN h := Nat.div_le_self _ _
        refine ih (i + 1) (x3 / 10) (x5 + 1) ls (by omega) (by omega) (by rw [ex5]; exact nI_1 i) ?_ (lv_sub hl [2, 3, 1, 0] rfl)
        rw [ex3, show (10 : Int64) = lN 10 from rfl, pk_lDiv (by omega) (by decide) (by decide), Nat.div_div_eq_div_mul, Nat.pow_succ]
  refine lv_lload_n hx hb dX1_decimalDigit_0 rfl (lv_at hl 0 rfl) ?_
  refine lv_lstore_n (lv' := [(3, .long h), (0, .long h), (2, .int k)]) hx hb dX1_decimalDigit_1 rfl hl (by decide) rfl (fun ls hl => ?_)
  refine lv_iconst (v := 0) hx hb dX1_decimalDigit_2 (by decide) ?_
  refine lv_istore (lv' := [(5, .int 0), (3, .long h), (0, .long h), (2, .int k)]) hx hb dX1_decimalDigit_3 hl (by decide) rfl (fun ls hl => ?_)
  exact loop (K + 1) 0 h 0 ls (by omega) (by omega) rfl (by rw [Nat.pow_zero, Nat.div_one]; exact l_of (by omega)) (lv_sub hl [2, 3, 1, 0] rfl)
