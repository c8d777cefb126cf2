/-! the reference: share -/
theorem dg_one {f : Nat → Int32} (h : dg f 0) : dg (upd f 0 1) 1 := by
  intro j hj
  rcases Nat.eq_zero_or_pos j with q | q
  · subst q; rw [up_s]; decide
  · rw [up_n (by omega), h j hj, Nat.zero_div]
    obtain ⟨i, rfl⟩ : ∃ i, j = i + 1 := ⟨j - 1, by omega⟩
    rw [Nat.div_eq_of_lt (Nat.one_lt_pow (by omega) (by decide))]
theorem sg_mul {a b : Int} (ha : a ≠ 0) (hb : b ≠ 0) : (a * b < 0) ↔ ¬ ((a < 0) ↔ (b < 0)) := by
  rcases Int.lt_or_gt_of_ne ha with x | x <;> rcases Int.lt_or_gt_of_ne hb with y | y
  · have := Int.mul_pos_of_neg_of_neg x y
    omega
  · have := Int.mul_neg_of_neg_of_pos x y
    omega
  · have := Int.mul_neg_of_pos_of_neg x y
    omega
  · have := Int.mul_pos x y
    omega
theorem nn_ok {a b d : Int64} {nn : Int32} (h : nn = 1 ↔ ¬ (¬ (a.toInt < 0 ↔ b.toInt < 0) ↔ d.toInt < 0)) : a.toInt.natAbs * b.toInt.natAbs ≠ 0 → (nn = 1 ↔ rq_ng (a.toInt * b.toInt) d.toInt) := by
  intro h0
  have ha : a.toInt ≠ 0 := fun q => h0 (by rw [q]; exact Nat.zero_mul _)
  have hb : b.toInt ≠ 0 := fun q => h0 (by rw [q]; exact Nat.mul_zero _)
  rw [h]
  unfold rq_ng
  rw [sg_mul ha hb]
theorem share_fin {a b d : Int} {nn wy : Int32} {z : Nat} (hd : 0 < d.natAbs) (h01 : nn = 0 ∨ nn = 1) (hn : a.natAbs * b.natAbs ≠ 0 → (nn = 1 ↔ rq_ng (a * b) d)) (hz : z = a.natAbs * b.natAbs / d.natAbs + (if rq_up (a.natAbs * b.natAbs % d.natAbs) d.natAbs (nn = 1) wy then 1 else 0)) : sv nn z = rq (a * b) d wy := by
  have hm : (a * b).natAbs = a.natAbs * b.natAbs := Int.natAbs_mul a b
  unfold rq rq_sz
  rw [hm]
  generalize a.natAbs * b.natAbs = X at *
  by_cases h0 : X = 0
  · subst h0
    have u1 : ∀ P : Prop, ¬ rq_up (0 % d.natAbs) d.natAbs P wy := by
      intro P q
      rw [Nat.zero_mod] at q
      rcases q with q | q | q
      · exact q.2.2 rfl
      · exact q.2.2 rfl
      · have := q.2; omega
    rw [if_neg (u1 _), Nat.zero_div] at hz
    rw [if_neg (u1 _), Nat.zero_div, hz]
    unfold sv
    split <;> split <;> rfl
  · have hn := hn h0
    have e : rq_up (X % d.natAbs) d.natAbs (nn = 1) wy ↔ rq_up (X % d.natAbs) d.natAbs (rq_ng (a * b) d) wy := by
      unfold rq_up; rw [hn]
    have hz2 : (z : Int) = ((X / d.natAbs : Nat) : Int) + (if rq_up (X % d.natAbs) d.natAbs (rq_ng (a * b) d) wy then 1 else 0) := by
      rw [hz]
      by_cases q : rq_up (X % d.natAbs) d.natAbs (nn = 1) wy
      · rw [if_pos q, if_pos (e.mp q)]; rfl
      · rw [if_neg q, if_neg (fun z => q (e.mpr z))]; rfl
    rw [← hz2]
    by_cases q : nn = 1
    · rw [sv_1 q, if_pos (hn.mp q)]
    · rw [sv_0 (n10 h01 q), if_neg (fun z => q (hn.mpr z))]
theorem share_eq {rf : Nat → Int64} {tv : Nat → Int} {r wy : Int32} {v d : Int64} {V : Int} (h : okR r ∧ okW wy) (h0 : ¬ d = 0) (e : V = rq ((rf r.toNatClampNeg).toInt * v.toInt) d.toInt wy) : sp_share (rf, tv) r v d wy = sp_kR (rf, tv) r V := by
  rw [e]
  exact (if_pos h).trans (if_neg h0)
-- the reference: share (laid by wip/whole/gen_mq.py)
set_option maxHeartbeats 4000000 in
set_option maxRecDepth 100000 in
theorem cM_share (l : Launch) (D : va_G) {tys : xT} {ws : va_W} {sz : Nat} {w0 : va_W} {ad : Nat → Nat} {cB : Nat → ClassId} {rf : Nat → Int64} {tf bf fa fb fc fr : Nat → Int32} {ng : Int32} (M : md w0 ws tys ad cB rf tf bf fa fb fc fr ng) {tv : Nat → Int} (T : mt tf bf tv) (r : Int32) (v d : Int64) (wy : Int32) : xM l yX2_share (.code yX2_share cX2_share 9 (some .int) :: mdT) ({ frames := 2, cells := 0, slots := 0, locals := 50 }) D tys ws sz [.ref (ad 0), .int r, .long v, .long d, .int wy] (xQi D tys (fun a w => mdS w0 w tys ad cB (sp_share (rf, tv) r v d wy).2 ∧ a = (sp_share (rf, tv) r v d wy).1)) 0 0 := by
  refine xb_m (cc := cX2_share) (maxL := 9) (ret := (some .int)) (by decide) rfl (Nat.le_of_ble_eq_true rfl) ?_
  intro p e s m below meth c A ls hx hb hr hml hown hts hlocks hnm hA hP hK hD hS hl
  have hl : lv_has ls 9 [(0, .ref (ad 0)), (1, .int r), (2, .long v), (4, .long d), (6, .int wy)] := hl
  have hown : s.vm.findClass RX2 = some m.cls := hown
  have t233 : okR r → okW wy → ¬ d = 0 → ∀ (nn fx : Int32) (f1 f2 f3 f4 : Nat → Int32) (ws1 : va_W) (H : Heap) (locs : List Loc) (ls : Array Slot), (nn = 0 ∨ nn = 1) → (((rf r.toNatClampNeg).toInt.natAbs * v.toInt.natAbs) ≠ 0 → (nn = 1 ↔ rq_ng ((rf r.toNatClampNeg).toInt * v.toInt) d.toInt)) → fx = (if rq_up (((rf r.toNatClampNeg).toInt.natAbs * v.toInt.natAbs) % d.toInt.natAbs) d.toInt.natAbs (nn = 1) wy then 1 else 0) → md w0 ws1 tys ad cB rf tf bf f1 f2 f3 f4 nn → dg f1 (((rf r.toNatClampNeg).toInt.natAbs * v.toInt.natAbs) / d.toInt.natAbs) → va_P D vwCl ws1 H → va_D A ws1 → va_S A s.heap H locs → lv_has ls 9 [(0, .ref (ad 0)), (1, .int r), (6, .int wy)] → W p l e ({ frames := 2, cells := 0, slots := 0, locals := 50 }) s m [.ref (ad 0), .int r, .long v, .long d, .int wy].toArray below meth c H locs 0 0 (MQ below (xQi D tys (fun a w => mdS w0 w tys ad cB (sp_share (rf, tv) r v d wy).2 ∧ a = (sp_share (rf, tv) r v d wy).1) A) [.ref (ad 0), .int r, .long v, .long d, .int wy].toArray s 0 0 A) (F0 m 233 ls [.int fx]) := by
    intro c4 cw c24 nn fx f1 f2 f3 f4 ws1 H locs ls h01 hnn hfx M hd1 hP hD hS hl
    have hxx : ((rf r.toNatClampNeg).toInt.natAbs * v.toInt.natAbs) < 10 ^ 79 := abs_m _ _
    have hq : ((rf r.toNatClampNeg).toInt.natAbs * v.toInt.natAbs) / d.toInt.natAbs ≤ ((rf r.toNatClampNeg).toInt.natAbs * v.toInt.natAbs) := Nat.div_le_self _ _
    have h10 : 10 * 10 ^ 79 = 10 ^ 80 := by decide
    refine lv_istore (lv' := [(8, .int fx), (0, .ref (ad 0)), (1, .int r), (6, .int wy)]) hx hb dX2_share_233 hl (by decide) rfl (fun ls hl => ?_)
    refine lv_iload hx hb dX2_share_235 (lv_at hl 0 rfl) ?_
    refine lv_if_eq (tgt := 265) hx hb dX2_share_237 (by decide) (fun c237 => ?_) (fun c237 => ?_)
    · have c237 := bz_0 hfx c237
      refine lv_aload_n hx hb dX2_share_265 rfl (lv_at hl 1 rfl) ?_
      refine lv_iload_n hx hb dX2_share_266 rfl (lv_at hl 2 rfl) ?_
      refine xb_ri (va_runV (As := [.int r]) (rest := []) ⟨hx, hb, hml, hown, hts⟩ (cM_store l D M tv hd1 (by omega) h01 c4) (cwV 1 hts (gM_V 71 yX2_store (.code yX2_store cX2_store 5 (some .int)) (by decide +kernel) mw_62) rfl rfl rfl (by decide +kernel) ⟨Nat.le_of_ble_eq_true rfl, Nat.le_of_ble_eq_true rfl⟩) (xb_pv hP hK hD rfl rfl (md_a0 M)) rfl rfl hl.1 rfl (lv_room (Nat.le_of_ble_eq_true rfl)) dX2_share_267 ⟨Nat.le_of_ble_eq_true rfl, Nat.le_of_ble_eq_true rfl⟩) hD hS hA (fun r267 ws2 H locs hws2 hP hD hS => ?_)
      exact xb_ir hx hb hr hlocks hP hK hD hS dX2_share_270 (fin_kR T hws2 (share_eq ⟨c4, cw⟩ c24 (share_fin (l_ne c24) h01 hnn (by rw [if_neg c237, Nat.add_zero]))))
    · have c237 := bz_1 hfx c237
      refine lv_aload_n hx hb dX2_share_240 rfl (lv_at hl 1 rfl) ?_
      refine va_get (D := D) (ci := ciM) (v := .ref (ad 6)) (C := RX2) (T := TX2) (N := 8) hx hb hts inM hown hK hP 10 (md_a0 M) rfl 5 (by decide) (hts _ (inT mw_11)) (fun _ h9 => h9) rfl dX2_share_241 ?_
      refine xb_rv (va_runS (As := [.ref (ad 6)]) (rest := []) ⟨hx, hb, hml, hown, hts⟩ (cM_nothing l D (md_a6 M) (md_t5 M)) (va_cwS 1 hts (gM_S 39 yX2_nothing (.code yX2_nothing cX2_nothing 2 none) (by decide +kernel) mw_66) rfl rfl rfl (by decide +kernel) ⟨Nat.le_of_ble_eq_true rfl, Nat.le_of_ble_eq_true rfl⟩) (xb_ps rfl hP hK hD) rfl rfl hl.1 rfl (lv_room (Nat.le_of_ble_eq_true rfl)) dX2_share_244 ⟨Nat.le_of_ble_eq_true rfl, Nat.le_of_ble_eq_true rfl⟩) hD hS hA (fun ws2 H locs hws2 hP hD hS => ?_)
      obtain ⟨fc_244, hws2, hdfc_244⟩ := hws2
      have M := md_sfc M hws2
      have hdfc_244 : dg fc_244 0 := fun j hj => by rw [hdfc_244 j hj, Nat.zero_div]; rfl
      refine lv_aload_n hx hb dX2_share_247 rfl (lv_at hl 1 rfl) ?_
      refine va_get (D := D) (ci := ciM) (v := .ref (ad 6)) (C := RX2) (T := TX2) (N := 8) hx hb hts inM hown hK hP 10 (md_a0 M) rfl 5 (by decide) (hts _ (inT mw_11)) (fun _ h9 => h9) rfl dX2_share_248 ?_
      refine lv_iconst (v := 0) hx hb dX2_share_251 (by decide) ?_
      refine lv_iconst (v := 1) hx hb dX2_share_252 (by decide) ?_
      refine ia_st (x := 1) hx hb hK hP hD hS (md_a6 M) (md_t5 M) nI_0.symm (by decide) (by decide) dX2_share_253 (fun ws3 H locs hws3 hP hD hS => ?_)
      have M := md_sfc M hws3
      have hdo : dg (upd fc_244 0 1) 1 := dg_one hdfc_244
      refine lv_aload_n hx hb dX2_share_254 rfl (lv_at hl 1 rfl) ?_
      refine va_get (D := D) (ci := ciM) (v := .ref (ad 4)) (C := RX2) (T := TX2) (N := 8) hx hb hts inM hown hK hP 10 (md_a0 M) rfl 3 (by decide) (hts _ (inT mw_7)) (fun _ h9 => h9) rfl dX2_share_255 ?_
      refine lv_aload_n hx hb dX2_share_258 rfl (lv_at hl 1 rfl) ?_
      refine va_get (D := D) (ci := ciM) (v := .ref (ad 6)) (C := RX2) (T := TX2) (N := 8) hx hb hts inM hown hK hP 10 (md_a0 M) rfl 5 (by decide) (hts _ (inT mw_11)) (fun _ h9 => h9) rfl dX2_share_259 ?_
      refine xb_rv (va_runS (As := [.ref (ad 4), .ref (ad 6)]) (rest := []) ⟨hx, hb, hml, hown, hts⟩ (cM_plus l D (md_a4 M) (md_t3 M) (md_a6 M) (md_t5 M) hd1 hdo (by decide)) (va_cwS 2 hts (gM_S 58 yX2_plus (.code yX2_plus cX2_plus 5 none) (by decide +kernel) mw_58) rfl rfl rfl (by decide +kernel) ⟨Nat.le_of_ble_eq_true rfl, Nat.le_of_ble_eq_true rfl⟩) (xb_ps rfl hP hK hD) rfl rfl hl.1 rfl (lv_room (Nat.le_of_ble_eq_true rfl)) dX2_share_262 ⟨Nat.le_of_ble_eq_true rfl, Nat.le_of_ble_eq_true rfl⟩) hD hS hA (fun ws4 H locs hws4 hP hD hS => ?_)
      obtain ⟨fa_262, hws4, hdfa_262⟩ := hws4
      have M := md_sfa M hws4
      have hdfa_262 : dg fa_262 ((((rf r.toNatClampNeg).toInt.natAbs * v.toInt.natAbs) / d.toInt.natAbs) + 1) := hdfa_262
      refine lv_aload_n hx hb dX2_share_265 rfl (lv_at hl 1 rfl) ?_
      refine lv_iload_n hx hb dX2_share_266 rfl (lv_at hl 2 rfl) ?_
      refine xb_ri (va_runV (As := [.int r]) (rest := []) ⟨hx, hb, hml, hown, hts⟩ (cM_store l D M tv hdfa_262 (by omega) h01 c4) (cwV 1 hts (gM_V 71 yX2_store (.code yX2_store cX2_store 5 (some .int)) (by decide +kernel) mw_62) rfl rfl rfl (by decide +kernel) ⟨Nat.le_of_ble_eq_true rfl, Nat.le_of_ble_eq_true rfl⟩) (xb_pv hP hK hD rfl rfl (md_a0 M)) rfl rfl hl.1 rfl (lv_room (Nat.le_of_ble_eq_true rfl)) dX2_share_267 ⟨Nat.le_of_ble_eq_true rfl, Nat.le_of_ble_eq_true rfl⟩) hD hS hA (fun r267 ws5 H locs hws5 hP hD hS => ?_)
      exact xb_ir hx hb hr hlocks hP hK hD hS dX2_share_270 (fin_kR T hws5 (share_eq ⟨c4, cw⟩ c24 (share_fin (l_ne c24) h01 hnn (by rw [if_pos c237]))))
  have t119 : okR r → okW wy → ¬ d = 0 → ∀ (nn : Int32) (f1 f2 f3 : Nat → Int32) (ws1 : va_W) (H : Heap) (locs : List Loc) (ls : Array Slot), (nn = 0 ∨ nn = 1) → (((rf r.toNatClampNeg).toInt.natAbs * v.toInt.natAbs) ≠ 0 → (nn = 1 ↔ rq_ng ((rf r.toNatClampNeg).toInt * v.toInt) d.toInt)) → md w0 ws1 tys ad cB rf tf bf f1 f2 f3 fr ng → dg f1 ((rf r.toNatClampNeg).toInt.natAbs * v.toInt.natAbs) → dg f2 d.toInt.natAbs → va_P D vwCl ws1 H → va_D A ws1 → va_S A s.heap H locs → lv_has ls 9 [(0, .ref (ad 0)), (1, .int r), (6, .int wy)] → W p l e ({ frames := 2, cells := 0, slots := 0, locals := 50 }) s m [.ref (ad 0), .int r, .long v, .long d, .int wy].toArray below meth c H locs 0 0 (MQ below (xQi D tys (fun a w => mdS w0 w tys ad cB (sp_share (rf, tv) r v d wy).2 ∧ a = (sp_share (rf, tv) r v d wy).1) A) [.ref (ad 0), .int r, .long v, .long d, .int wy].toArray s 0 0 A) (F0 m 119 ls [.int nn, .ref (ad 0)]) := by
    intro c4 cw c24 nn f1 f2 f3 ws1 H locs ls h01 hnn M hd1 hd2 hP hD hS hl
    have hxx : ((rf r.toNatClampNeg).toInt.natAbs * v.toInt.natAbs) < 10 ^ 79 := abs_m _ _
    have h10 : 10 * 10 ^ 79 = 10 ^ 80 := by decide
    have hdl : d.toInt.natAbs < 10 ^ 79 := Nat.lt_of_le_of_lt (l_abs d) (by decide)
    have hmlt : ((rf r.toNatClampNeg).toInt.natAbs * v.toInt.natAbs) % d.toInt.natAbs < d.toInt.natAbs := Nat.mod_lt _ (l_ne c24)
    refine va_put (D := D) (ci := ciM) (v := .int nn) (ty := .boolean) (C := RX2) (T := TX2) (N := 8) hx hb hts inM tyX2 tyX2_ok nmX2 hown hK hP hD hS 10 (md_a0 M) rfl 7 (by decide) (hts _ (inT mw_10)) (fun _ h9 => h9) rfl (by decide +kernel) (by rcases h01 with rfl | rfl <;> rfl) (by rcases h01 with rfl | rfl <;> rfl) (Nat.le_of_ble_eq_true rfl) dX2_share_119 (fun H locs hP hD hS => ?_)
    obtain ⟨ws2, hws2⟩ : ∃ q_, q_ = ws1.set 10 (ad 0, .inr (ciM, [.ref (ad 1), .ref (ad 2), .ref (ad 3), .ref (ad 4), .ref (ad 5), .ref (ad 6), .ref (ad 7), .int nn])) := ⟨_, rfl⟩
    have hP : va_P D vwCl ws2 H := by rw [hws2]; exact hP
    have hD : va_D A ws2 := by rw [hws2]; exact hD
    have M := md_sng M hws2
    refine lv_aload_n hx hb dX2_share_122 rfl (lv_at hl 0 rfl) ?_
    refine xb_rv (va_runV (As := []) (rest := []) ⟨hx, hb, hml, hown, hts⟩ (cM_div l D M hd1 hd2 (l_ne c24) (by omega) hdl) (cwV 0 hts (gM_V 82 yX2_divide (.code yX2_divide cX2_divide 4 none) (by decide +kernel) mw_68) rfl rfl rfl (by decide +kernel) ⟨Nat.le_of_ble_eq_true rfl, Nat.le_of_ble_eq_true rfl⟩) (xb_pv hP hK hD rfl rfl (md_a0 M)) rfl rfl hl.1 rfl (lv_room (Nat.le_of_ble_eq_true rfl)) dX2_share_123 ⟨Nat.le_of_ble_eq_true rfl, Nat.le_of_ble_eq_true rfl⟩) hD hS hA (fun ws3 H locs hws3 hP hD hS => ?_)
    obtain ⟨fa_123, fr_123, M, hdfa_123, hdfr_123⟩ := hws3
    refine lv_aload_n hx hb dX2_share_126 rfl (lv_at hl 0 rfl) ?_
    refine va_get (D := D) (ci := ciM) (v := .ref (ad 7)) (C := RX2) (T := TX2) (N := 8) hx hb hts inM hown hK hP 10 (md_a0 M) rfl 6 (by decide) (hts _ (inT mw_25)) (fun _ h9 => h9) rfl dX2_share_127 ?_
    refine xb_ri (va_runS (As := [.ref (ad 7)]) (rest := []) ⟨hx, hb, hml, hown, hts⟩ (cM_isn l D (md_a7 M) (md_t6 M) hdfr_123 (show ((rf r.toNatClampNeg).toInt.natAbs * v.toInt.natAbs) % d.toInt.natAbs < 10 ^ 80 by omega)) (va_cwS 1 hts (gM_S 85 yX2_isNothing (.code yX2_isNothing cX2_isNothing 3 (some .boolean)) (by decide +kernel) mw_69) rfl rfl rfl (by decide +kernel) ⟨Nat.le_of_ble_eq_true rfl, Nat.le_of_ble_eq_true rfl⟩) (xb_ps rfl hP hK hD) rfl rfl hl.1 rfl (lv_room (Nat.le_of_ble_eq_true rfl)) dX2_share_130 ⟨Nat.le_of_ble_eq_true rfl, Nat.le_of_ble_eq_true rfl⟩) hD hS hA (fun r130 ws4 H locs hws4 hP hD hS => ?_)
    obtain ⟨hr130, rfl⟩ := hws4
    refine lv_istore (lv' := [(7, .int r130), (0, .ref (ad 0)), (1, .int r), (6, .int wy)]) hx hb dX2_share_133 hl (by decide) rfl (fun ls hl => ?_)
    refine lv_aload_n hx hb dX2_share_135 rfl (lv_at hl 1 rfl) ?_
    refine va_get (D := D) (ci := ciM) (v := .ref (ad 7)) (C := RX2) (T := TX2) (N := 8) hx hb hts inM hown hK hP 10 (md_a0 M) rfl 6 (by decide) (hts _ (inT mw_25)) (fun _ h9 => h9) rfl dX2_share_136 ?_
    refine lv_aload_n hx hb dX2_share_139 rfl (lv_at hl 1 rfl) ?_
    refine va_get (D := D) (ci := ciM) (v := .ref (ad 6)) (C := RX2) (T := TX2) (N := 8) hx hb hts inM hown hK hP 10 (md_a0 M) rfl 5 (by decide) (hts _ (inT mw_11)) (fun _ h9 => h9) rfl dX2_share_140 ?_
    refine xb_rv (va_runS (As := [.ref (ad 7), .ref (ad 6)]) (rest := []) ⟨hx, hb, hml, hown, hts⟩ (cM_copy l D (md_a6 M) (md_t5 M) (md_a7 M) (md_t6 M) (by decide)) (va_cwS 2 hts (gM_S 43 yX2_copy (.code yX2_copy cX2_copy 3 none) (by decide +kernel) mw_61) rfl rfl rfl (by decide +kernel) ⟨Nat.le_of_ble_eq_true rfl, Nat.le_of_ble_eq_true rfl⟩) (xb_ps rfl hP hK hD) rfl rfl hl.1 rfl (lv_room (Nat.le_of_ble_eq_true rfl)) dX2_share_143 ⟨Nat.le_of_ble_eq_true rfl, Nat.le_of_ble_eq_true rfl⟩) hD hS hA (fun ws5 H locs hws5 hP hD hS => ?_)
    obtain ⟨fc_143, hws5, hdfc_143⟩ := hws5
    have M := md_sfc M hws5
    have hdfc_143 : dg fc_143 (((rf r.toNatClampNeg).toInt.natAbs * v.toInt.natAbs) % d.toInt.natAbs) := fun j hj => (hdfc_143 j hj).trans (hdfr_123 j hj)
    refine lv_aload_n hx hb dX2_share_146 rfl (lv_at hl 1 rfl) ?_
    refine va_get (D := D) (ci := ciM) (v := .ref (ad 6)) (C := RX2) (T := TX2) (N := 8) hx hb hts inM hown hK hP 10 (md_a0 M) rfl 5 (by decide) (hts _ (inT mw_11)) (fun _ h9 => h9) rfl dX2_share_147 ?_
    refine lv_aload_n hx hb dX2_share_150 rfl (lv_at hl 1 rfl) ?_
    refine va_get (D := D) (ci := ciM) (v := .ref (ad 7)) (C := RX2) (T := TX2) (N := 8) hx hb hts inM hown hK hP 10 (md_a0 M) rfl 6 (by decide) (hts _ (inT mw_25)) (fun _ h9 => h9) rfl dX2_share_151 ?_
    refine xb_rv (va_runS (As := [.ref (ad 6), .ref (ad 7)]) (rest := []) ⟨hx, hb, hml, hown, hts⟩ (cM_plus l D (md_a6 M) (md_t5 M) (md_a7 M) (md_t6 M) hdfc_143 hdfr_123 (by decide)) (va_cwS 2 hts (gM_S 58 yX2_plus (.code yX2_plus cX2_plus 5 none) (by decide +kernel) mw_58) rfl rfl rfl (by decide +kernel) ⟨Nat.le_of_ble_eq_true rfl, Nat.le_of_ble_eq_true rfl⟩) (xb_ps rfl hP hK hD) rfl rfl hl.1 rfl (lv_room (Nat.le_of_ble_eq_true rfl)) dX2_share_154 ⟨Nat.le_of_ble_eq_true rfl, Nat.le_of_ble_eq_true rfl⟩) hD hS hA (fun ws6 H locs hws6 hP hD hS => ?_)
    obtain ⟨fc_154, hws6, hdfc_154⟩ := hws6
    have M := md_sfc M hws6
    have hdfc_154 : dg fc_154 ((((rf r.toNatClampNeg).toInt.natAbs * v.toInt.natAbs) % d.toInt.natAbs) + (((rf r.toNatClampNeg).toInt.natAbs * v.toInt.natAbs) % d.toInt.natAbs)) := hdfc_154
    refine lv_iload hx hb dX2_share_157 (lv_at hl 3 rfl) ?_
    refine lv_if_ne (tgt := 182) hx hb dX2_share_159 (by decide) (fun c159 => ?_) (fun c159 => ?_)
    · refine lv_iload hx hb dX2_share_182 (lv_at hl 3 rfl) ?_
      refine lv_iconst (v := 1) hx hb dX2_share_184 (by decide) ?_
      refine lv_icmp_ne (tgt := 208) hx hb dX2_share_185 (by decide) (fun c185 => ?_) (fun c185 => ?_)
      · refine lv_iload hx hb dX2_share_208 (lv_at hl 3 rfl) ?_
        refine lv_iconst (v := 3) hx hb dX2_share_210 (by decide) ?_
        refine lv_icmp_ne (tgt := 232) hx hb dX2_share_211 (by decide) (fun c211 => ?_) (fun c211 => ?_)
        · refine lv_iconst (v := 0) hx hb dX2_share_232 (by decide) ?_
          exact t233 c4 cw c24 nn 0 _ _ _ _ ws6 H locs ls h01 hnn (by rw [if_neg (fun q => by rcases q with q | q | q; exact c159 q.1; exact c185 q.1; exact c211 q.1)]) M hdfa_123 hP hD hS (lv_sub hl [1, 2, 3] rfl)
        · refine lv_aload_n hx hb dX2_share_214 rfl (lv_at hl 1 rfl) ?_
          refine va_get (D := D) (ci := ciM) (v := .ref (ad 6)) (C := RX2) (T := TX2) (N := 8) hx hb hts inM hown hK hP 10 (md_a0 M) rfl 5 (by decide) (hts _ (inT mw_11)) (fun _ h9 => h9) rfl dX2_share_215 ?_
          refine lv_aload_n hx hb dX2_share_218 rfl (lv_at hl 1 rfl) ?_
          refine va_get (D := D) (ci := ciM) (v := .ref (ad 5)) (C := RX2) (T := TX2) (N := 8) hx hb hts inM hown hK hP 10 (md_a0 M) rfl 4 (by decide) (hts _ (inT mw_29)) (fun _ h9 => h9) rfl dX2_share_219 ?_
          refine xb_ri (va_runS (As := [.ref (ad 6), .ref (ad 5)]) (rest := []) ⟨hx, hb, hml, hown, hts⟩ (cM_cmps l D (md_a6 M) (md_t5 M) (md_a5 M) (md_t4 M) hdfc_154 hd2 (by omega) (by omega)) (va_cwS 2 hts (gM_S 47 yX2_compareSizes (.code yX2_compareSizes cX2_compareSizes 4 (some .int)) (by decide +kernel) mw_59) rfl rfl rfl (by decide +kernel) ⟨Nat.le_of_ble_eq_true rfl, Nat.le_of_ble_eq_true rfl⟩) (xb_ps rfl hP hK hD) rfl rfl hl.1 rfl (lv_room (Nat.le_of_ble_eq_true rfl)) dX2_share_222 ⟨Nat.le_of_ble_eq_true rfl, Nat.le_of_ble_eq_true rfl⟩) hD hS hA (fun r222 ws7 H locs hws7 hP hD hS => ?_)
          obtain ⟨hr222, rfl⟩ := hws7
          refine lv_if_lt (tgt := 232) hx hb dX2_share_225 (by decide) (fun c225 => ?_) (fun c225 => ?_)
          · refine lv_iconst (v := 0) hx hb dX2_share_232 (by decide) ?_
            rw [hr222, ord_lt] at c225
            exact t233 c4 cw c24 nn 0 _ _ _ _ ws6 H locs ls h01 hnn (by rw [c211, if_neg (by rw [rq3]; omega)]) M hdfa_123 hP hD hS (lv_sub hl [1, 2, 3] rfl)
          · refine lv_iconst (v := 1) hx hb dX2_share_228 (by decide) ?_
            refine lv_goto (tgt := 233) hx hb dX2_share_229 (by decide) ?_
            rw [hr222, ord_lt] at c225
            exact t233 c4 cw c24 nn 1 _ _ _ _ ws6 H locs ls h01 hnn (by rw [c211, if_pos (by rw [rq3]; omega)]) M hdfa_123 hP hD hS (lv_sub hl [1, 2, 3] rfl)
      · refine lv_aload_n hx hb dX2_share_188 rfl (lv_at hl 1 rfl) ?_
        refine va_get (D := D) (ci := ciM) (v := .int nn) (C := RX2) (T := TX2) (N := 8) hx hb hts inM hown hK hP 10 (md_a0 M) rfl 7 (by decide) (hts _ (inT mw_10)) (fun _ h9 => h9) rfl dX2_share_189 ?_
        refine lv_if_ne (tgt := 204) hx hb dX2_share_192 (by decide) (fun c192 => ?_) (fun c192 => ?_)
        · refine lv_iconst (v := 0) hx hb dX2_share_204 (by decide) ?_
          refine lv_goto (tgt := 233) hx hb dX2_share_205 (by decide) ?_
          exact t233 c4 cw c24 nn 0 _ _ _ _ ws6 H locs ls h01 hnn (by rw [c185, if_neg (fun q => ((rq1 _ _ _).mp q).1 (n01 h01 c192))]) M hdfa_123 hP hD hS (lv_sub hl [1, 2, 3] rfl)
        · refine lv_iload hx hb dX2_share_195 (lv_at hl 0 rfl) ?_
          refine lv_if_ne (tgt := 204) hx hb dX2_share_197 (by decide) (fun c197 => ?_) (fun c197 => ?_)
          · have c197 := bz_1 hr130 c197
            refine lv_iconst (v := 0) hx hb dX2_share_204 (by decide) ?_
            refine lv_goto (tgt := 233) hx hb dX2_share_205 (by decide) ?_
            exact t233 c4 cw c24 nn 0 _ _ _ _ ws6 H locs ls h01 hnn (by rw [c185, if_neg (fun q => ((rq1 _ _ _).mp q).2 c197)]) M hdfa_123 hP hD hS (lv_sub hl [1, 2, 3] rfl)
          · have c197 := bz_0 hr130 c197
            refine lv_iconst (v := 1) hx hb dX2_share_200 (by decide) ?_
            refine lv_goto (tgt := 233) hx hb dX2_share_201 (by decide) ?_
            exact t233 c4 cw c24 nn 1 _ _ _ _ ws6 H locs ls h01 hnn (by rw [c185, if_pos ((rq1 _ _ _).mpr ⟨fun q => absurd (c192.symm.trans q) (by decide), c197⟩)]) M hdfa_123 hP hD hS (lv_sub hl [1, 2, 3] rfl)
    · refine lv_aload_n hx hb dX2_share_162 rfl (lv_at hl 1 rfl) ?_
      refine va_get (D := D) (ci := ciM) (v := .int nn) (C := RX2) (T := TX2) (N := 8) hx hb hts inM hown hK hP 10 (md_a0 M) rfl 7 (by decide) (hts _ (inT mw_10)) (fun _ h9 => h9) rfl dX2_share_163 ?_
      refine lv_if_eq (tgt := 178) hx hb dX2_share_166 (by decide) (fun c166 => ?_) (fun c166 => ?_)
      · refine lv_iconst (v := 0) hx hb dX2_share_178 (by decide) ?_
        refine lv_goto (tgt := 233) hx hb dX2_share_179 (by decide) ?_
        exact t233 c4 cw c24 nn 0 _ _ _ _ ws6 H locs ls h01 hnn (by rw [c159, if_neg (fun q => absurd (c166.symm.trans ((rq0 _ _ _).mp q).1) (by decide))]) M hdfa_123 hP hD hS (lv_sub hl [1, 2, 3] rfl)
      · refine lv_iload hx hb dX2_share_169 (lv_at hl 0 rfl) ?_
        refine lv_if_ne (tgt := 178) hx hb dX2_share_171 (by decide) (fun c171 => ?_) (fun c171 => ?_)
        · have c171 := bz_1 hr130 c171
          refine lv_iconst (v := 0) hx hb dX2_share_178 (by decide) ?_
          refine lv_goto (tgt := 233) hx hb dX2_share_179 (by decide) ?_
          exact t233 c4 cw c24 nn 0 _ _ _ _ ws6 H locs ls h01 hnn (by rw [c159, if_neg (fun q => ((rq0 _ _ _).mp q).2 c171)]) M hdfa_123 hP hD hS (lv_sub hl [1, 2, 3] rfl)
        · have c171 := bz_0 hr130 c171
          refine lv_iconst (v := 1) hx hb dX2_share_174 (by decide) ?_
          refine lv_goto (tgt := 233) hx hb dX2_share_175 (by decide) ?_
          exact t233 c4 cw c24 nn 1 _ _ _ _ ws6 H locs ls h01 hnn (by rw [c159, if_pos ((rq0 _ _ _).mpr ⟨n01 h01 c166, c171⟩)]) M hdfa_123 hP hD hS (lv_sub hl [1, 2, 3] rfl)
  refine lv_iload_n hx hb dX2_share_0 rfl (lv_at hl 1 rfl) ?_
  refine xb_ri (va_runS (As := [.int r]) (rest := []) ⟨hx, hb, hml, hown, hts⟩ (cM_isR l D r) (va_cwS 1 hts (gM_S 33 yX2_isRegister (.code yX2_isRegister cX2_isRegister 1 (some .boolean)) (by decide +kernel) mw_52) rfl rfl rfl (by decide +kernel) ⟨Nat.le_of_ble_eq_true rfl, Nat.le_of_ble_eq_true rfl⟩) (xb_ps rfl hP hK hD) rfl rfl hl.1 rfl (lv_room (Nat.le_of_ble_eq_true rfl)) dX2_share_1 ⟨Nat.le_of_ble_eq_true rfl, Nat.le_of_ble_eq_true rfl⟩) hD hS hA (fun r1 ws1 H locs hws1 hP hD hS => ?_)
  obtain ⟨hr1, rfl⟩ := hws1
  refine lv_if_eq (tgt := 18) hx hb dX2_share_4 (by decide) (fun c4 => ?_) (fun c4 => ?_)
  · have c4 := bz_0 hr1 c4
    refine lv_iconst (v := (-1)) hx hb dX2_share_18 (by decide) ?_
    exact xb_ir hx hb hr hlocks hP hK hD hS dX2_share_19 (fin_no M T (by rw [sp_share, if_neg (fun q => c4 q.1)]))
  · have c4 := bz_1 hr1 c4
    refine lv_iload hx hb dX2_share_7 (lv_at hl 4 rfl) ?_
    refine lv_if_lt (tgt := 18) hx hb dX2_share_9 (by decide) (fun c9 => ?_) (fun c9 => ?_)
    · refine lv_iconst (v := (-1)) hx hb dX2_share_18 (by decide) ?_
      exact xb_ir hx hb hr hlocks hP hK hD hS dX2_share_19 (fin_no M T (by rw [sp_share, if_neg (fun q => q.2.1 c9)]))
    · refine lv_iload hx hb dX2_share_12 (lv_at hl 4 rfl) ?_
      refine lv_iconst (v := 3) hx hb dX2_share_14 (by decide) ?_
      refine lv_icmp_le (tgt := 20) hx hb dX2_share_15 (by decide) (fun c15 => ?_) (fun c15 => ?_)
      · refine lv_lload hx hb dX2_share_20 (lv_at hl 3 rfl) ?_
        refine lv_lconst (v := 0) hx hb dX2_share_22 (by decide) ?_
        refine W.lcmp hx hb dX2_share_23 ?_
        refine lv_if_ne (tgt := 29) hx hb dX2_share_24 (by decide) (fun c24 => ?_) (fun c24 => ?_)
        · rw [lg_cmp_eq] at c24
          refine lv_aload_n hx hb dX2_share_29 rfl (lv_at hl 0 rfl) ?_
          refine va_get (D := D) (ci := ciM) (v := .ref (ad 1)) (C := RX2) (T := TX2) (N := 8) hx hb hts inM hown hK hP 10 (md_a0 M) rfl 0 (by decide) (hts _ (inT mw_3)) (fun _ h9 => h9) rfl dX2_share_30 ?_
          refine lv_iload_n hx hb dX2_share_33 rfl (lv_at hl 1 rfl) ?_
          refine md_lld hx hb hK hP M c4 dX2_share_34 ?_
          refine lv_aload_n hx hb dX2_share_35 rfl (lv_at hl 0 rfl) ?_
          refine va_get (D := D) (ci := ciM) (v := .ref (ad 4)) (C := RX2) (T := TX2) (N := 8) hx hb hts inM hown hK hP 10 (md_a0 M) rfl 3 (by decide) (hts _ (inT mw_7)) (fun _ h9 => h9) rfl dX2_share_36 ?_
          refine xb_rv (va_runS (As := [.long (rf r.toNatClampNeg), .ref (ad 4)]) (rest := []) ⟨hx, hb, hml, hown, hts⟩ (cM_write l D (md_a4 M) (md_t3 M) (rf r.toNatClampNeg)) (va_cwS 2 hts (gM_S 63 yX2_write (.code yX2_write cX2_write 7 none) (by decide +kernel) mw_56) rfl rfl rfl (by decide +kernel) ⟨Nat.le_of_ble_eq_true rfl, Nat.le_of_ble_eq_true rfl⟩) (xb_ps rfl hP hK hD) rfl rfl hl.1 rfl (lv_room (Nat.le_of_ble_eq_true rfl)) dX2_share_39 ⟨Nat.le_of_ble_eq_true rfl, Nat.le_of_ble_eq_true rfl⟩) hD hS hA (fun ws2 H locs hws2 hP hD hS => ?_)
          obtain ⟨fa_39, hws2, hdfa_39⟩ := hws2
          have M := md_sfa M hws2
          have hdfa_39 : dg fa_39 ((rf r.toNatClampNeg).toInt.natAbs) := hdfa_39
          refine lv_lload_n hx hb dX2_share_42 rfl (lv_at hl 2 rfl) ?_
          refine lv_aload_n hx hb dX2_share_43 rfl (lv_at hl 0 rfl) ?_
          refine va_get (D := D) (ci := ciM) (v := .ref (ad 5)) (C := RX2) (T := TX2) (N := 8) hx hb hts inM hown hK hP 10 (md_a0 M) rfl 4 (by decide) (hts _ (inT mw_29)) (fun _ h9 => h9) rfl dX2_share_44 ?_
          refine xb_rv (va_runS (As := [.long v, .ref (ad 5)]) (rest := []) ⟨hx, hb, hml, hown, hts⟩ (cM_write l D (md_a5 M) (md_t4 M) v) (va_cwS 2 hts (gM_S 63 yX2_write (.code yX2_write cX2_write 7 none) (by decide +kernel) mw_56) rfl rfl rfl (by decide +kernel) ⟨Nat.le_of_ble_eq_true rfl, Nat.le_of_ble_eq_true rfl⟩) (xb_ps rfl hP hK hD) rfl rfl hl.1 rfl (lv_room (Nat.le_of_ble_eq_true rfl)) dX2_share_47 ⟨Nat.le_of_ble_eq_true rfl, Nat.le_of_ble_eq_true rfl⟩) hD hS hA (fun ws3 H locs hws3 hP hD hS => ?_)
          obtain ⟨fb_47, hws3, hdfb_47⟩ := hws3
          have M := md_sfb M hws3
          have hdfb_47 : dg fb_47 (v.toInt.natAbs) := hdfb_47
          refine lv_aload_n hx hb dX2_share_50 rfl (lv_at hl 0 rfl) ?_
          refine xb_rv (va_runV (As := []) (rest := []) ⟨hx, hb, hml, hown, hts⟩ (cM_mul l D M hdfa_39 hdfb_47 (abs40 _) (abs40 _)) (cwV 0 hts (gM_V 79 yX2_multiply (.code yX2_multiply cX2_multiply 5 none) (by decide +kernel) mw_65) rfl rfl rfl (by decide +kernel) ⟨Nat.le_of_ble_eq_true rfl, Nat.le_of_ble_eq_true rfl⟩) (xb_pv hP hK hD rfl rfl (md_a0 M)) rfl rfl hl.1 rfl (lv_room (Nat.le_of_ble_eq_true rfl)) dX2_share_51 ⟨Nat.le_of_ble_eq_true rfl, Nat.le_of_ble_eq_true rfl⟩) hD hS hA (fun ws4 H locs hws4 hP hD hS => ?_)
          obtain ⟨fa_51, fc_51, M, hdfa_51⟩ := hws4
          refine lv_lload hx hb dX2_share_54 (lv_at hl 3 rfl) ?_
          refine lv_aload_n hx hb dX2_share_56 rfl (lv_at hl 0 rfl) ?_
          refine va_get (D := D) (ci := ciM) (v := .ref (ad 5)) (C := RX2) (T := TX2) (N := 8) hx hb hts inM hown hK hP 10 (md_a0 M) rfl 4 (by decide) (hts _ (inT mw_29)) (fun _ h9 => h9) rfl dX2_share_57 ?_
          refine xb_rv (va_runS (As := [.long d, .ref (ad 5)]) (rest := []) ⟨hx, hb, hml, hown, hts⟩ (cM_write l D (md_a5 M) (md_t4 M) d) (va_cwS 2 hts (gM_S 63 yX2_write (.code yX2_write cX2_write 7 none) (by decide +kernel) mw_56) rfl rfl rfl (by decide +kernel) ⟨Nat.le_of_ble_eq_true rfl, Nat.le_of_ble_eq_true rfl⟩) (xb_ps rfl hP hK hD) rfl rfl hl.1 rfl (lv_room (Nat.le_of_ble_eq_true rfl)) dX2_share_60 ⟨Nat.le_of_ble_eq_true rfl, Nat.le_of_ble_eq_true rfl⟩) hD hS hA (fun ws5 H locs hws5 hP hD hS => ?_)
          obtain ⟨fb_60, hws5, hdfb_60⟩ := hws5
          have M := md_sfb M hws5
          have hdfb_60 : dg fb_60 (d.toInt.natAbs) := hdfb_60
          refine lv_aload_n hx hb dX2_share_63 rfl (lv_at hl 0 rfl) ?_
          refine lv_aload_n hx hb dX2_share_64 rfl (lv_at hl 0 rfl) ?_
          refine va_get (D := D) (ci := ciM) (v := .ref (ad 1)) (C := RX2) (T := TX2) (N := 8) hx hb hts inM hown hK hP 10 (md_a0 M) rfl 0 (by decide) (hts _ (inT mw_3)) (fun _ h9 => h9) rfl dX2_share_65 ?_
          refine lv_iload_n hx hb dX2_share_68 rfl (lv_at hl 1 rfl) ?_
          refine md_lld hx hb hK hP M c4 dX2_share_69 ?_
          refine lv_lconst (v := 0) hx hb dX2_share_70 (by decide) ?_
          refine W.lcmp hx hb dX2_share_71 ?_
          refine lv_if_ge (tgt := 79) hx hb dX2_share_72 (by decide) (fun c72 => ?_) (fun c72 => ?_)
          · rw [lg_cmp_ge] at c72
            refine lv_iconst (v := 0) hx hb dX2_share_79 (by decide) ?_
            refine lv_lload_n hx hb dX2_share_80 rfl (lv_at hl 2 rfl) ?_
            refine lv_lconst (v := 0) hx hb dX2_share_81 (by decide) ?_
            refine W.lcmp hx hb dX2_share_82 ?_
            refine lv_if_ge (tgt := 90) hx hb dX2_share_83 (by decide) (fun c83 => ?_) (fun c83 => ?_)
            · rw [lg_cmp_ge] at c83
              refine lv_iconst (v := 0) hx hb dX2_share_90 (by decide) ?_
              refine lv_icmp_eq (tgt := 98) hx hb dX2_share_91 (by decide) (fun _ => ?_) (fun q => absurd rfl q)
              refine lv_iconst (v := 0) hx hb dX2_share_98 (by decide) ?_
              refine lv_lload hx hb dX2_share_99 (lv_at hl 3 rfl) ?_
              refine lv_lconst (v := 0) hx hb dX2_share_101 (by decide) ?_
              refine W.lcmp hx hb dX2_share_102 ?_
              refine lv_if_ge (tgt := 110) hx hb dX2_share_103 (by decide) (fun c103 => ?_) (fun c103 => ?_)
              · rw [lg_cmp_ge] at c103
                refine lv_iconst (v := 0) hx hb dX2_share_110 (by decide) ?_
                refine lv_icmp_eq (tgt := 118) hx hb dX2_share_111 (by decide) (fun _ => ?_) (fun q => absurd rfl q)
                refine lv_iconst (v := 0) hx hb dX2_share_118 (by decide) ?_
                exact t119 c4 ⟨c9, Int32.not_lt.mpr c15⟩ c24 0 _ _ _ ws5 H locs ls (Or.inl rfl) (nn_ok (by rw [l_neg] at c72 c83 c103; exact ⟨fun q => absurd q (by decide), fun q => absurd q (by omega)⟩)) M hdfa_51 hdfb_60 hP hD hS (lv_sub hl [0, 1, 4] rfl)
              · rw [lg_cmp_ge] at c103
                refine lv_iconst (v := 1) hx hb dX2_share_106 (by decide) ?_
                refine lv_goto (tgt := 111) hx hb dX2_share_107 (by decide) ?_
                refine lv_icmp_eq (tgt := 118) hx hb dX2_share_111 (by decide) (fun q => absurd q (by decide)) (fun _ => ?_)
                refine lv_iconst (v := 1) hx hb dX2_share_114 (by decide) ?_
                refine lv_goto (tgt := 119) hx hb dX2_share_115 (by decide) ?_
                exact t119 c4 ⟨c9, Int32.not_lt.mpr c15⟩ c24 1 _ _ _ ws5 H locs ls (Or.inr rfl) (nn_ok (by rw [l_neg] at c72 c83 c103; exact ⟨fun _ => by omega, fun _ => rfl⟩)) M hdfa_51 hdfb_60 hP hD hS (lv_sub hl [0, 1, 4] rfl)
            · rw [lg_cmp_ge] at c83
              refine lv_iconst (v := 1) hx hb dX2_share_86 (by decide) ?_
              refine lv_goto (tgt := 91) hx hb dX2_share_87 (by decide) ?_
              refine lv_icmp_eq (tgt := 98) hx hb dX2_share_91 (by decide) (fun q => absurd q (by decide)) (fun _ => ?_)
              refine lv_iconst (v := 1) hx hb dX2_share_94 (by decide) ?_
              refine lv_goto (tgt := 99) hx hb dX2_share_95 (by decide) ?_
              refine lv_lload hx hb dX2_share_99 (lv_at hl 3 rfl) ?_
              refine lv_lconst (v := 0) hx hb dX2_share_101 (by decide) ?_
              refine W.lcmp hx hb dX2_share_102 ?_
              refine lv_if_ge (tgt := 110) hx hb dX2_share_103 (by decide) (fun c103 => ?_) (fun c103 => ?_)
              · rw [lg_cmp_ge] at c103
                refine lv_iconst (v := 0) hx hb dX2_share_110 (by decide) ?_
                refine lv_icmp_eq (tgt := 118) hx hb dX2_share_111 (by decide) (fun q => absurd q (by decide)) (fun _ => ?_)
                refine lv_iconst (v := 1) hx hb dX2_share_114 (by decide) ?_
                refine lv_goto (tgt := 119) hx hb dX2_share_115 (by decide) ?_
                exact t119 c4 ⟨c9, Int32.not_lt.mpr c15⟩ c24 1 _ _ _ ws5 H locs ls (Or.inr rfl) (nn_ok (by rw [l_neg] at c72 c83 c103; exact ⟨fun _ => by omega, fun _ => rfl⟩)) M hdfa_51 hdfb_60 hP hD hS (lv_sub hl [0, 1, 4] rfl)
              · rw [lg_cmp_ge] at c103
                refine lv_iconst (v := 1) hx hb dX2_share_106 (by decide) ?_
                refine lv_goto (tgt := 111) hx hb dX2_share_107 (by decide) ?_
                refine lv_icmp_eq (tgt := 118) hx hb dX2_share_111 (by decide) (fun _ => ?_) (fun q => absurd rfl q)
                refine lv_iconst (v := 0) hx hb dX2_share_118 (by decide) ?_
                exact t119 c4 ⟨c9, Int32.not_lt.mpr c15⟩ c24 0 _ _ _ ws5 H locs ls (Or.inl rfl) (nn_ok (by rw [l_neg] at c72 c83 c103; exact ⟨fun q => absurd q (by decide), fun q => absurd q (by omega)⟩)) M hdfa_51 hdfb_60 hP hD hS (lv_sub hl [0, 1, 4] rfl)
          · rw [lg_cmp_ge] at c72
            refine lv_iconst (v := 1) hx hb dX2_share_75 (by decide) ?_
            refine lv_goto (tgt := 80) hx hb dX2_share_76 (by decide) ?_
            refine lv_lload_n hx hb dX2_share_80 rfl (lv_at hl 2 rfl) ?_
            refine lv_lconst (v := 0) hx hb dX2_share_81 (by decide) ?_
            refine W.lcmp hx hb dX2_share_82 ?_
            refine lv_if_ge (tgt := 90) hx hb dX2_share_83 (by decide) (fun c83 => ?_) (fun c83 => ?_)
            · rw [lg_cmp_ge] at c83
              refine lv_iconst (v := 0) hx hb dX2_share_90 (by decide) ?_
              refine lv_icmp_eq (tgt := 98) hx hb dX2_share_91 (by decide) (fun q => absurd q (by decide)) (fun _ => ?_)
              refine lv_iconst (v := 1) hx hb dX2_share_94 (by decide) ?_
              refine lv_goto (tgt := 99) hx hb dX2_share_95 (by decide) ?_
              refine lv_lload hx hb dX2_share_99 (lv_at hl 3 rfl) ?_
              refine lv_lconst (v := 0) hx hb dX2_share_101 (by decide) ?_
              refine W.lcmp hx hb dX2_share_102 ?_
              refine lv_if_ge (tgt := 110) hx hb dX2_share_103 (by decide) (fun c103 => ?_) (fun c103 => ?_)
              · rw [lg_cmp_ge] at c103
                refine lv_iconst (v := 0) hx hb dX2_share_110 (by decide) ?_
                refine lv_icmp_eq (tgt := 118) hx hb dX2_share_111 (by decide) (fun q => absurd q (by decide)) (fun _ => ?_)
                refine lv_iconst (v := 1) hx hb dX2_share_114 (by decide) ?_
                refine lv_goto (tgt := 119) hx hb dX2_share_115 (by decide) ?_
                exact t119 c4 ⟨c9, Int32.not_lt.mpr c15⟩ c24 1 _ _ _ ws5 H locs ls (Or.inr rfl) (nn_ok (by rw [l_neg] at c72 c83 c103; exact ⟨fun _ => by omega, fun _ => rfl⟩)) M hdfa_51 hdfb_60 hP hD hS (lv_sub hl [0, 1, 4] rfl)
              · rw [lg_cmp_ge] at c103
                refine lv_iconst (v := 1) hx hb dX2_share_106 (by decide) ?_
                refine lv_goto (tgt := 111) hx hb dX2_share_107 (by decide) ?_
                refine lv_icmp_eq (tgt := 118) hx hb dX2_share_111 (by decide) (fun _ => ?_) (fun q => absurd rfl q)
                refine lv_iconst (v := 0) hx hb dX2_share_118 (by decide) ?_
                exact t119 c4 ⟨c9, Int32.not_lt.mpr c15⟩ c24 0 _ _ _ ws5 H locs ls (Or.inl rfl) (nn_ok (by rw [l_neg] at c72 c83 c103; exact ⟨fun q => absurd q (by decide), fun q => absurd q (by omega)⟩)) M hdfa_51 hdfb_60 hP hD hS (lv_sub hl [0, 1, 4] rfl)
            · rw [lg_cmp_ge] at c83
              refine lv_iconst (v := 1) hx hb dX2_share_86 (by decide) ?_
              refine lv_goto (tgt := 91) hx hb dX2_share_87 (by decide) ?_
              refine lv_icmp_eq (tgt := 98) hx hb dX2_share_91 (by decide) (fun _ => ?_) (fun q => absurd rfl q)
              refine lv_iconst (v := 0) hx hb dX2_share_98 (by decide) ?_
              refine lv_lload hx hb dX2_share_99 (lv_at hl 3 rfl) ?_
              refine lv_lconst (v := 0) hx hb dX2_share_101 (by decide) ?_
              refine W.lcmp hx hb dX2_share_102 ?_
              refine lv_if_ge (tgt := 110) hx hb dX2_share_103 (by decide) (fun c103 => ?_) (fun c103 => ?_)
              · rw [lg_cmp_ge] at c103
                refine lv_iconst (v := 0) hx hb dX2_share_110 (by decide) ?_
                refine lv_icmp_eq (tgt := 118) hx hb dX2_share_111 (by decide) (fun _ => ?_) (fun q => absurd rfl q)
                refine lv_iconst (v := 0) hx hb dX2_share_118 (by decide) ?_
                exact t119 c4 ⟨c9, Int32.not_lt.mpr c15⟩ c24 0 _ _ _ ws5 H locs ls (Or.inl rfl) (nn_ok (by rw [l_neg] at c72 c83 c103; exact ⟨fun q => absurd q (by decide), fun q => absurd q (by omega)⟩)) M hdfa_51 hdfb_60 hP hD hS (lv_sub hl [0, 1, 4] rfl)
              · rw [lg_cmp_ge] at c103
                refine lv_iconst (v := 1) hx hb dX2_share_106 (by decide) ?_
                refine lv_goto (tgt := 111) hx hb dX2_share_107 (by decide) ?_
                refine lv_icmp_eq (tgt := 118) hx hb dX2_share_111 (by decide) (fun q => absurd q (by decide)) (fun _ => ?_)
                refine lv_iconst (v := 1) hx hb dX2_share_114 (by decide) ?_
                refine lv_goto (tgt := 119) hx hb dX2_share_115 (by decide) ?_
                exact t119 c4 ⟨c9, Int32.not_lt.mpr c15⟩ c24 1 _ _ _ ws5 H locs ls (Or.inr rfl) (nn_ok (by rw [l_neg] at c72 c83 c103; exact ⟨fun _ => by omega, fun _ => rfl⟩)) M hdfa_51 hdfb_60 hP hD hS (lv_sub hl [0, 1, 4] rfl)
        · rw [lg_cmp_eq] at c24
          refine lv_iconst (v := 3) hx hb dX2_share_27 (by decide) ?_
          exact xb_ir hx hb hr hlocks hP hK hD hS dX2_share_28 (fin_no M T (by rw [sp_share, if_pos ⟨c4, c9, Int32.not_lt.mpr c15⟩, if_pos c24]))
      · refine lv_iconst (v := (-1)) hx hb dX2_share_18 (by decide) ?_
        exact xb_ir hx hb hr hlocks hP hK hD hS dX2_share_19 (fin_no M T (by rw [sp_share, if_neg (fun q => q.2.2 (Int32.not_le.mp c15))]))
