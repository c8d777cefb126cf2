/-! the reference's state, and what its operations come to -/
def mt (tf bf : Nat → Int32) (tv : Nat → Int) : Prop := ∀ t, t < 4 → (∀ k, k < 36 → tf (40 * t + k) = nI ((tv t).natAbs / 10 ^ k % 10)) ∧ bf t = (if tv t < 0 then 1 else 0) ∧ (tv t).natAbs < 10 ^ 36
def mdS (w0 ws : va_W) (tys : xT) (ad : Nat → Nat) (cB : Nat → ClassId) (S : sS) : Prop := ∃ tf bf fa fb fc fr ng, md w0 ws tys ad cB S.1 tf bf fa fb fc fr ng ∧ mt tf bf S.2
def sp_sum (S : sS) (r : Int32) (v : Int64) (tu : Int32) : Int32 × sS := if okR r then sp_kR S r ((S.1 r.toNatClampNeg).toInt + (if tu = 1 then -v.toInt else v.toInt)) else (-1, S)
theorem kR_tv (rf : Nat → Int64) (tv : Nat → Int) (r : Int32) (v : Int) : (sp_kR (rf, tv) r v).2.2 = tv := by
  unfold sp_kR; split
  · rfl
  · split <;> rfl
theorem fin_kR {w0 w : va_W} {tys : xT} {ad : Nat → Nat} {cB : Nat → ClassId} {rf : Nat → Int64} {tv : Nat → Int} {tf bf fa fb fr : Nat → Int32} {ng r a : Int32} {V : Int} {SP : Int32 × sS} (T : mt tf bf tv) (hw : (∃ f2, md w0 w tys ad cB (sp_kR (rf, tv) r V).2.1 tf bf fa fb f2 fr ng) ∧ a = (sp_kR (rf, tv) r V).1) (e : SP = sp_kR (rf, tv) r V) : mdS w0 w tys ad cB SP.2 ∧ a = SP.1 := by
  obtain ⟨⟨f2, M⟩, h⟩ := hw
  rw [e]
  exact ⟨⟨tf, bf, fa, fb, f2, fr, ng, M, by rw [kR_tv]; exact T⟩, h⟩
theorem fin_no {w0 w : va_W} {tys : xT} {ad : Nat → Nat} {cB : Nat → ClassId} {rf : Nat → Int64} {tv : Nat → Int} {tf bf fa fb fc fr : Nat → Int32} {ng a : Int32} {SP : Int32 × sS} (M : md w0 w tys ad cB rf tf bf fa fb fc fr ng) (T : mt tf bf tv) (e : SP = (a, (rf, tv))) : mdS w0 w tys ad cB SP.2 ∧ a = SP.1 := by
  rw [e]
  exact ⟨⟨tf, bf, fa, fb, fc, fr, ng, M, T⟩, rfl⟩
theorem sum_eq {rf : Nat → Int64} {tv : Nat → Int} {r tu : Int32} {v : Int64} {V : Int} (h : okR r) (e : V = (rf r.toNatClampNeg).toInt + (if tu = 1 then -v.toInt else v.toInt)) : sp_sum (rf, tv) r v tu = sp_kR (rf, tv) r V := by
  rw [e]; exact if_pos h
theorem times_eq {rf : Nat → Int64} {tv : Nat → Int} {r : Int32} {v : Int64} {V : Int} (h : okR r) (e : V = (rf r.toNatClampNeg).toInt * v.toInt) : sp_times (rf, tv) r v = sp_kR (rf, tv) r V := by
  rw [e]; exact if_pos h
theorem abs40 (v : Int64) : v.toInt.natAbs < 10 ^ 40 := by
  have a := un_lo v
  have b := un_hi v
  have e : (10 : Nat) ^ 40 = 10000000000000000000000000000000000000000 := by decide
  omega
theorem m80 {x y : Nat} (hx : x < 10 ^ 40) (hy : y < 10 ^ 40) : x * y < 10 ^ 80 := by
  have h : x * y < 10 ^ 40 * 10 ^ 40 := Nat.mul_lt_mul_of_lt_of_lt hx hy
  rw [← Nat.pow_add] at h
  exact h
theorem a80 {x y : Nat} (hx : x < 10 ^ 40) (hy : y < 10 ^ 40) : x + y < 10 ^ 80 := by
  have e : (10 : Nat) ^ 40 = 10000000000000000000000000000000000000000 := by decide
  have f : (10 : Nat) ^ 80 = 100000000000000000000000000000000000000000000000000000000000000000000000000000000 := by decide
  omega
theorem svn {v : Int64} (h : ¬ 0 ≤ v) : sv 1 v.toInt.natAbs = v.toInt ∧ sv 0 v.toInt.natAbs = -v.toInt := by
  rw [l_neg] at h
  rw [sv_1 rfl, sv_0 rfl]; omega
theorem svp {v : Int64} (h : 0 ≤ v) : sv 0 v.toInt.natAbs = v.toInt ∧ sv 1 v.toInt.natAbs = -v.toInt := by
  rw [l_neg] at h
  rw [sv_1 rfl, sv_0 rfl]; omega
theorem sv_mul {a b n : Int32} {x y : Nat} (ha : a = 0 ∨ a = 1) (hb : b = 0 ∨ b = 1) (hn : n = if a = b then 0 else 1) : sv n (x * y) = sv a x * sv b y := by
  rcases ha with rfl | rfl <;> rcases hb with rfl | rfl
  · rw [if_pos rfl] at hn; rw [sv_0 hn, sv_0 rfl, sv_0 rfl]; rfl
  · rw [if_neg (by decide)] at hn; rw [sv_1 hn, sv_0 rfl, sv_1 rfl, Int.mul_neg]; rfl
  · rw [if_neg (by decide)] at hn; rw [sv_1 hn, sv_1 rfl, sv_0 rfl, Int.neg_mul]; rfl
  · rw [if_pos rfl] at hn; rw [sv_0 hn, sv_1 rfl, sv_1 rfl, Int.neg_mul, Int.mul_neg, Int.neg_neg]; rfl
-- the reference: set, get, sum, add, subtract, times (laid by wip/whole/gen_ml.py)
set_option maxHeartbeats 4000000 in
set_option maxRecDepth 100000 in
theorem cM_set (l : Launch) (D : va_G) {tys : xT} {ws : va_W} {sz : Nat} {w0 : va_W} {ad : Nat → Nat} {cB : Nat → ClassId} {rf : Nat → Int64} {tf bf fa fb fc fr : Nat → Int32} {ng : Int32} (M : md w0 ws tys ad cB rf tf bf fa fb fc fr ng) {tv : Nat → Int} (T : mt tf bf tv) (r : Int32) (v : Int64) : xM l yX2_set (.code yX2_set cX2_set 4 (some .boolean) :: mdT) ({ frames := 1, cells := 0, slots := 0, locals := 20 }) D tys ws sz [.ref (ad 0), .int r, .long v] (xQi D tys (fun a w => mdS w0 w tys ad cB (sp_set (rf, tv) r v).2 ∧ a = (sp_set (rf, tv) r v).1)) 0 0 := by
  refine xb_m (cc := cX2_set) (maxL := 4) (ret := (some .boolean)) (by decide) rfl (Nat.le_of_ble_eq_true rfl) ?_
  intro p e s m below meth c A ls hx hb hr hml hown hts hlocks hnm hA hP hK hD hS hl
  have hl : lv_has ls 4 [(0, .ref (ad 0)), (1, .int r), (2, .long v)] := hl
  have hown : s.vm.findClass RX2 = some m.cls := hown
  refine lv_iload_n hx hb dX2_set_0 rfl (lv_at hl 1 rfl) ?_
  refine xb_ri (va_runS (As := [.int r]) (rest := []) ⟨hx, hb, hml, hown, hts⟩ (cM_isR l D r) (va_cwS 1 hts (gM_S 33 yX2_isRegister (.code yX2_isRegister cX2_isRegister 1 (some .boolean)) (by decide +kernel) mw_52) rfl rfl rfl (by decide +kernel) ⟨Nat.le_of_ble_eq_true rfl, Nat.le_of_ble_eq_true rfl⟩) (xb_ps rfl hP hK hD) rfl rfl hl.1 rfl (lv_room (Nat.le_of_ble_eq_true rfl)) dX2_set_1 ⟨Nat.le_of_ble_eq_true rfl, Nat.le_of_ble_eq_true rfl⟩) hD hS hA (fun r1 ws1 H locs hws1 hP hD hS => ?_)
  obtain ⟨hr1, rfl⟩ := hws1
  refine lv_if_ne (tgt := 9) hx hb dX2_set_4 (by decide) (fun c4 => ?_) (fun c4 => ?_)
  · have c4 := bz_1 hr1 c4
    refine lv_aload_n hx hb dX2_set_9 rfl (lv_at hl 0 rfl) ?_
    refine va_get (D := D) (ci := ciM) (v := .ref (ad 1)) (C := RX2) (T := TX2) (N := 8) hx hb hts inM hown hK hP 10 (md_a0 M) rfl 0 (by decide) (hts _ (inT mw_3)) (fun _ h9 => h9) rfl dX2_set_10 ?_
    refine lv_iload_n hx hb dX2_set_13 rfl (lv_at hl 1 rfl) ?_
    refine lv_lload_n hx hb dX2_set_14 rfl (lv_at hl 2 rfl) ?_
    refine md_lst hx hb hK hP hD hS M c4 dX2_set_15 (fun ws2 H locs M hP hD hS => ?_)
    refine lv_iconst (v := 1) hx hb dX2_set_16 (by decide) ?_
    exact xb_zr hx hb hr hlocks hP hK hD hS dX2_set_17 rfl (by rw [sp_set, if_pos c4]; exact ⟨⟨tf, bf, _, _, _, _, _, M, T⟩, rfl⟩)
  · have c4 := bz_0 hr1 c4
    refine lv_iconst (v := 0) hx hb dX2_set_7 (by decide) ?_
    exact xb_zr hx hb hr hlocks hP hK hD hS dX2_set_8 rfl (fin_no M T (by rw [sp_set, if_neg c4]))
set_option maxHeartbeats 4000000 in
set_option maxRecDepth 100000 in
theorem cM_get (l : Launch) (D : va_G) {tys : xT} {ws : va_W} {sz : Nat} {w0 : va_W} {ad : Nat → Nat} {cB : Nat → ClassId} {rf : Nat → Int64} {tf bf fa fb fc fr : Nat → Int32} {ng : Int32} (M : md w0 ws tys ad cB rf tf bf fa fb fc fr ng) {tv : Nat → Int} (T : mt tf bf tv) (r : Int32) : xM l yX2_get (.code yX2_get cX2_get 2 (some .long) :: mdT) ({ frames := 1, cells := 0, slots := 0, locals := 20 }) D tys ws sz [.ref (ad 0), .int r] (xQl D tys (fun a w => mdS w0 w tys ad cB (rf, tv) ∧ a = sp_get (rf, tv) r)) 0 0 := by
  refine xb_m (cc := cX2_get) (maxL := 2) (ret := (some .long)) (by decide) rfl (Nat.le_of_ble_eq_true rfl) ?_
  intro p e s m below meth c A ls hx hb hr hml hown hts hlocks hnm hA hP hK hD hS hl
  have hl : lv_has ls 2 [(0, .ref (ad 0)), (1, .int r)] := hl
  have hown : s.vm.findClass RX2 = some m.cls := hown
  refine lv_iload_n hx hb dX2_get_0 rfl (lv_at hl 1 rfl) ?_
  refine xb_ri (va_runS (As := [.int r]) (rest := []) ⟨hx, hb, hml, hown, hts⟩ (cM_isR l D r) (va_cwS 1 hts (gM_S 33 yX2_isRegister (.code yX2_isRegister cX2_isRegister 1 (some .boolean)) (by decide +kernel) mw_52) rfl rfl rfl (by decide +kernel) ⟨Nat.le_of_ble_eq_true rfl, Nat.le_of_ble_eq_true rfl⟩) (xb_ps rfl hP hK hD) rfl rfl hl.1 rfl (lv_room (Nat.le_of_ble_eq_true rfl)) dX2_get_1 ⟨Nat.le_of_ble_eq_true rfl, Nat.le_of_ble_eq_true rfl⟩) hD hS hA (fun r1 ws1 H locs hws1 hP hD hS => ?_)
  obtain ⟨hr1, rfl⟩ := hws1
  refine lv_if_eq (tgt := 16) hx hb dX2_get_4 (by decide) (fun c4 => ?_) (fun c4 => ?_)
  · have c4 := bz_0 hr1 c4
    refine lv_lconst (v := 0) hx hb dX2_get_16 (by decide) ?_
    exact xb_lr hx hb hr hlocks hP hK hD hS dX2_get_17 (⟨⟨tf, bf, _, _, _, _, _, M, T⟩, by rw [sp_get, if_neg c4]⟩)
  · have c4 := bz_1 hr1 c4
    refine lv_aload_n hx hb dX2_get_7 rfl (lv_at hl 0 rfl) ?_
    refine va_get (D := D) (ci := ciM) (v := .ref (ad 1)) (C := RX2) (T := TX2) (N := 8) hx hb hts inM hown hK hP 10 (md_a0 M) rfl 0 (by decide) (hts _ (inT mw_3)) (fun _ h9 => h9) rfl dX2_get_8 ?_
    refine lv_iload_n hx hb dX2_get_11 rfl (lv_at hl 1 rfl) ?_
    refine md_lld hx hb hK hP M c4 dX2_get_12 ?_
    refine lv_goto (tgt := 17) hx hb dX2_get_13 (by decide) ?_
    exact xb_lr hx hb hr hlocks hP hK hD hS dX2_get_17 (⟨⟨tf, bf, _, _, _, _, _, M, T⟩, by rw [sp_get, if_pos c4]⟩)
set_option maxHeartbeats 4000000 in
set_option maxRecDepth 100000 in
theorem cM_sum (l : Launch) (D : va_G) {tys : xT} {ws : va_W} {sz : Nat} {w0 : va_W} {ad : Nat → Nat} {cB : Nat → ClassId} {rf : Nat → Int64} {tf bf fa fb fc fr : Nat → Int32} {ng : Int32} (M : md w0 ws tys ad cB rf tf bf fa fb fc fr ng) {tv : Nat → Int} (T : mt tf bf tv) (r : Int32) (v : Int64) {tu : Int32} (htu : tu = 0 ∨ tu = 1) : xM l yX2_sum (.code yX2_sum cX2_sum 5 (some .int) :: mdT) ({ frames := 2, cells := 0, slots := 0, locals := 50 }) D tys ws sz [.ref (ad 0), .int r, .long v, .int tu] (xQi D tys (fun a w => mdS w0 w tys ad cB (sp_sum (rf, tv) r v tu).2 ∧ a = (sp_sum (rf, tv) r v tu).1)) 0 0 := by
  refine xb_m (cc := cX2_sum) (maxL := 5) (ret := (some .int)) (by decide) rfl (Nat.le_of_ble_eq_true rfl) ?_
  intro p e s m below meth c A ls hx hb hr hml hown hts hlocks hnm hA hP hK hD hS hl
  have hl : lv_has ls 5 [(0, .ref (ad 0)), (1, .int r), (2, .long v), (4, .int tu)] := hl
  have hown : s.vm.findClass RX2 = some m.cls := hown
  refine lv_iload_n hx hb dX2_sum_0 rfl (lv_at hl 1 rfl) ?_
  refine xb_ri (va_runS (As := [.int r]) (rest := []) ⟨hx, hb, hml, hown, hts⟩ (cM_isR l D r) (va_cwS 1 hts (gM_S 33 yX2_isRegister (.code yX2_isRegister cX2_isRegister 1 (some .boolean)) (by decide +kernel) mw_52) rfl rfl rfl (by decide +kernel) ⟨Nat.le_of_ble_eq_true rfl, Nat.le_of_ble_eq_true rfl⟩) (xb_ps rfl hP hK hD) rfl rfl hl.1 rfl (lv_room (Nat.le_of_ble_eq_true rfl)) dX2_sum_1 ⟨Nat.le_of_ble_eq_true rfl, Nat.le_of_ble_eq_true rfl⟩) hD hS hA (fun r1 ws1 H locs hws1 hP hD hS => ?_)
  obtain ⟨hr1, rfl⟩ := hws1
  refine lv_if_ne (tgt := 9) hx hb dX2_sum_4 (by decide) (fun c4 => ?_) (fun c4 => ?_)
  · have c4 := bz_1 hr1 c4
    refine lv_aload_n hx hb dX2_sum_9 rfl (lv_at hl 0 rfl) ?_
    refine va_get (D := D) (ci := ciM) (v := .ref (ad 1)) (C := RX2) (T := TX2) (N := 8) hx hb hts inM hown hK hP 10 (md_a0 M) rfl 0 (by decide) (hts _ (inT mw_3)) (fun _ h9 => h9) rfl dX2_sum_10 ?_
    refine lv_iload_n hx hb dX2_sum_13 rfl (lv_at hl 1 rfl) ?_
    refine md_lld hx hb hK hP M c4 dX2_sum_14 ?_
    refine lv_aload_n hx hb dX2_sum_15 rfl (lv_at hl 0 rfl) ?_
    refine va_get (D := D) (ci := ciM) (v := .ref (ad 4)) (C := RX2) (T := TX2) (N := 8) hx hb hts inM hown hK hP 10 (md_a0 M) rfl 3 (by decide) (hts _ (inT mw_7)) (fun _ h9 => h9) rfl dX2_sum_16 ?_
    refine xb_rv (va_runS (As := [.long (rf r.toNatClampNeg), .ref (ad 4)]) (rest := []) ⟨hx, hb, hml, hown, hts⟩ (cM_write l D (md_a4 M) (md_t3 M) (rf r.toNatClampNeg)) (va_cwS 2 hts (gM_S 63 yX2_write (.code yX2_write cX2_write 7 none) (by decide +kernel) mw_56) rfl rfl rfl (by decide +kernel) ⟨Nat.le_of_ble_eq_true rfl, Nat.le_of_ble_eq_true rfl⟩) (xb_ps rfl hP hK hD) rfl rfl hl.1 rfl (lv_room (Nat.le_of_ble_eq_true rfl)) dX2_sum_19 ⟨Nat.le_of_ble_eq_true rfl, Nat.le_of_ble_eq_true rfl⟩) hD hS hA (fun ws2 H locs hws2 hP hD hS => ?_)
    obtain ⟨fa_19, hws2, hdfa_19⟩ := hws2
    have M := md_sfa M hws2
    have hdfa_19 : dg fa_19 ((rf r.toNatClampNeg).toInt.natAbs) := hdfa_19
    refine lv_aload_n hx hb dX2_sum_22 rfl (lv_at hl 0 rfl) ?_
    refine lv_aload_n hx hb dX2_sum_23 rfl (lv_at hl 0 rfl) ?_
    refine va_get (D := D) (ci := ciM) (v := .ref (ad 1)) (C := RX2) (T := TX2) (N := 8) hx hb hts inM hown hK hP 10 (md_a0 M) rfl 0 (by decide) (hts _ (inT mw_3)) (fun _ h9 => h9) rfl dX2_sum_24 ?_
    refine lv_iload_n hx hb dX2_sum_27 rfl (lv_at hl 1 rfl) ?_
    refine md_lld hx hb hK hP M c4 dX2_sum_28 ?_
    refine lv_lconst (v := 0) hx hb dX2_sum_29 (by decide) ?_
    refine W.lcmp hx hb dX2_sum_30 ?_
    refine lv_if_ge (tgt := 38) hx hb dX2_sum_31 (by decide) (fun c31 => ?_) (fun c31 => ?_)
    · rw [lg_cmp_ge] at c31
      refine lv_iconst (v := 0) hx hb dX2_sum_38 (by decide) ?_
      refine va_put (D := D) (ci := ciM) (v := .int 0) (ty := .boolean) (C := RX2) (T := TX2) (N := 8) hx hb hts inM tyX2 tyX2_ok nmX2 hown hK hP hD hS 10 (md_a0 M) rfl 7 (by decide) (hts _ (inT mw_10)) (fun _ h9 => h9) rfl (by decide +kernel) rfl rfl (Nat.le_of_ble_eq_true rfl) dX2_sum_39 (fun H locs hP hD hS => ?_)
      obtain ⟨ws3, hws3⟩ : ∃ q_, q_ = ws2.set 10 (ad 0, .inr (ciM, [.ref (ad 1), .ref (ad 2), .ref (ad 3), .ref (ad 4), .ref (ad 5), .ref (ad 6), .ref (ad 7), .int 0])) := ⟨_, rfl⟩
      have hP : va_P D vwCl ws3 H := by rw [hws3]; exact hP
      have hD : va_D A ws3 := by rw [hws3]; exact hD
      have M := md_sng M hws3
      refine lv_lload_n hx hb dX2_sum_42 rfl (lv_at hl 2 rfl) ?_
      refine lv_aload_n hx hb dX2_sum_43 rfl (lv_at hl 0 rfl) ?_
      refine va_get (D := D) (ci := ciM) (v := .ref (ad 6)) (C := RX2) (T := TX2) (N := 8) hx hb hts inM hown hK hP 10 (md_a0 M) rfl 5 (by decide) (hts _ (inT mw_11)) (fun _ h9 => h9) rfl dX2_sum_44 ?_
      refine xb_rv (va_runS (As := [.long v, .ref (ad 6)]) (rest := []) ⟨hx, hb, hml, hown, hts⟩ (cM_write l D (md_a6 M) (md_t5 M) v) (va_cwS 2 hts (gM_S 63 yX2_write (.code yX2_write cX2_write 7 none) (by decide +kernel) mw_56) rfl rfl rfl (by decide +kernel) ⟨Nat.le_of_ble_eq_true rfl, Nat.le_of_ble_eq_true rfl⟩) (xb_ps rfl hP hK hD) rfl rfl hl.1 rfl (lv_room (Nat.le_of_ble_eq_true rfl)) dX2_sum_47 ⟨Nat.le_of_ble_eq_true rfl, Nat.le_of_ble_eq_true rfl⟩) hD hS hA (fun ws4 H locs hws4 hP hD hS => ?_)
      obtain ⟨fc_47, hws4, hdfc_47⟩ := hws4
      have M := md_sfc M hws4
      have hdfc_47 : dg fc_47 (v.toInt.natAbs) := hdfc_47
      refine lv_aload_n hx hb dX2_sum_50 rfl (lv_at hl 0 rfl) ?_
      refine lv_lload_n hx hb dX2_sum_51 rfl (lv_at hl 2 rfl) ?_
      refine lv_lconst (v := 0) hx hb dX2_sum_52 (by decide) ?_
      refine W.lcmp hx hb dX2_sum_53 ?_
      refine lv_if_ge (tgt := 61) hx hb dX2_sum_54 (by decide) (fun c54 => ?_) (fun c54 => ?_)
      · rw [lg_cmp_ge] at c54
        refine lv_iconst (v := 0) hx hb dX2_sum_61 (by decide) ?_
        refine lv_iload hx hb dX2_sum_62 (lv_at hl 3 rfl) ?_
        refine lv_icmp_eq (tgt := 71) hx hb dX2_sum_64 (by decide) (fun c64 => ?_) (fun c64 => ?_)
        · refine lv_iconst (v := 0) hx hb dX2_sum_71 (by decide) ?_
          refine xb_rv (va_runV (As := [.int 0]) (rest := []) ⟨hx, hb, hml, hown, hts⟩ (cM_join l D M hdfa_19 hdfc_47 (a80 (abs40 _) (abs40 _)) (lw := 0) (Or.inl rfl) (Or.inl rfl)) (cwV 1 hts (gM_V 67 yX2_join (.code yX2_join cX2_join 2 none) (by decide +kernel) mw_57) rfl rfl rfl (by decide +kernel) ⟨Nat.le_of_ble_eq_true rfl, Nat.le_of_ble_eq_true rfl⟩) (xb_pv hP hK hD rfl rfl (md_a0 M)) rfl rfl hl.1 rfl (lv_room (Nat.le_of_ble_eq_true rfl)) dX2_sum_72 ⟨Nat.le_of_ble_eq_true rfl, Nat.le_of_ble_eq_true rfl⟩) hD hS hA (fun ws5 H locs hws5 hP hD hS => ?_)
          obtain ⟨fa_72, fr_72, ng_72, z_72, M, hng_72, hdfa_72, hz_72, hs_72⟩ := hws5
          refine lv_aload_n hx hb dX2_sum_75 rfl (lv_at hl 0 rfl) ?_
          refine lv_iload_n hx hb dX2_sum_76 rfl (lv_at hl 1 rfl) ?_
          refine xb_ri (va_runV (As := [.int r]) (rest := []) ⟨hx, hb, hml, hown, hts⟩ (cM_store l D M tv hdfa_72 (Nat.lt_of_le_of_lt hz_72 (a80 (abs40 _) (abs40 _))) hng_72 c4) (cwV 1 hts (gM_V 71 yX2_store (.code yX2_store cX2_store 5 (some .int)) (by decide +kernel) mw_62) rfl rfl rfl (by decide +kernel) ⟨Nat.le_of_ble_eq_true rfl, Nat.le_of_ble_eq_true rfl⟩) (xb_pv hP hK hD rfl rfl (md_a0 M)) rfl rfl hl.1 rfl (lv_room (Nat.le_of_ble_eq_true rfl)) dX2_sum_77 ⟨Nat.le_of_ble_eq_true rfl, Nat.le_of_ble_eq_true rfl⟩) hD hS hA (fun r77 ws6 H locs hws6 hP hD hS => ?_)
          exact xb_ir hx hb hr hlocks hP hK hD hS dX2_sum_80 (fin_kR T hws6 (sum_eq c4 (by have ht : tu = 0 := c64.symm; rw [hs_72, (svp c31).1, (svp c54).1, ht, if_neg (by decide)])))
        · refine lv_iconst (v := 1) hx hb dX2_sum_67 (by decide) ?_
          refine lv_goto (tgt := 72) hx hb dX2_sum_68 (by decide) ?_
          refine xb_rv (va_runV (As := [.int 1]) (rest := []) ⟨hx, hb, hml, hown, hts⟩ (cM_join l D M hdfa_19 hdfc_47 (a80 (abs40 _) (abs40 _)) (lw := 1) (Or.inr rfl) (Or.inl rfl)) (cwV 1 hts (gM_V 67 yX2_join (.code yX2_join cX2_join 2 none) (by decide +kernel) mw_57) rfl rfl rfl (by decide +kernel) ⟨Nat.le_of_ble_eq_true rfl, Nat.le_of_ble_eq_true rfl⟩) (xb_pv hP hK hD rfl rfl (md_a0 M)) rfl rfl hl.1 rfl (lv_room (Nat.le_of_ble_eq_true rfl)) dX2_sum_72 ⟨Nat.le_of_ble_eq_true rfl, Nat.le_of_ble_eq_true rfl⟩) hD hS hA (fun ws5 H locs hws5 hP hD hS => ?_)
          obtain ⟨fa_72, fr_72, ng_72, z_72, M, hng_72, hdfa_72, hz_72, hs_72⟩ := hws5
          refine lv_aload_n hx hb dX2_sum_75 rfl (lv_at hl 0 rfl) ?_
          refine lv_iload_n hx hb dX2_sum_76 rfl (lv_at hl 1 rfl) ?_
          refine xb_ri (va_runV (As := [.int r]) (rest := []) ⟨hx, hb, hml, hown, hts⟩ (cM_store l D M tv hdfa_72 (Nat.lt_of_le_of_lt hz_72 (a80 (abs40 _) (abs40 _))) hng_72 c4) (cwV 1 hts (gM_V 71 yX2_store (.code yX2_store cX2_store 5 (some .int)) (by decide +kernel) mw_62) rfl rfl rfl (by decide +kernel) ⟨Nat.le_of_ble_eq_true rfl, Nat.le_of_ble_eq_true rfl⟩) (xb_pv hP hK hD rfl rfl (md_a0 M)) rfl rfl hl.1 rfl (lv_room (Nat.le_of_ble_eq_true rfl)) dX2_sum_77 ⟨Nat.le_of_ble_eq_true rfl, Nat.le_of_ble_eq_true rfl⟩) hD hS hA (fun r77 ws6 H locs hws6 hP hD hS => ?_)
          exact xb_ir hx hb hr hlocks hP hK hD hS dX2_sum_80 (fin_kR T hws6 (sum_eq c4 (by have ht : tu = 1 := n01 htu (fun q => c64 q.symm); rw [hs_72, (svp c31).1, (svp c54).2, ht, if_pos rfl])))
      · rw [lg_cmp_ge] at c54
        refine lv_iconst (v := 1) hx hb dX2_sum_57 (by decide) ?_
        refine lv_goto (tgt := 62) hx hb dX2_sum_58 (by decide) ?_
        refine lv_iload hx hb dX2_sum_62 (lv_at hl 3 rfl) ?_
        refine lv_icmp_eq (tgt := 71) hx hb dX2_sum_64 (by decide) (fun c64 => ?_) (fun c64 => ?_)
        · refine lv_iconst (v := 0) hx hb dX2_sum_71 (by decide) ?_
          refine xb_rv (va_runV (As := [.int 0]) (rest := []) ⟨hx, hb, hml, hown, hts⟩ (cM_join l D M hdfa_19 hdfc_47 (a80 (abs40 _) (abs40 _)) (lw := 0) (Or.inl rfl) (Or.inl rfl)) (cwV 1 hts (gM_V 67 yX2_join (.code yX2_join cX2_join 2 none) (by decide +kernel) mw_57) rfl rfl rfl (by decide +kernel) ⟨Nat.le_of_ble_eq_true rfl, Nat.le_of_ble_eq_true rfl⟩) (xb_pv hP hK hD rfl rfl (md_a0 M)) rfl rfl hl.1 rfl (lv_room (Nat.le_of_ble_eq_true rfl)) dX2_sum_72 ⟨Nat.le_of_ble_eq_true rfl, Nat.le_of_ble_eq_true rfl⟩) hD hS hA (fun ws5 H locs hws5 hP hD hS => ?_)
          obtain ⟨fa_72, fr_72, ng_72, z_72, M, hng_72, hdfa_72, hz_72, hs_72⟩ := hws5
          refine lv_aload_n hx hb dX2_sum_75 rfl (lv_at hl 0 rfl) ?_
          refine lv_iload_n hx hb dX2_sum_76 rfl (lv_at hl 1 rfl) ?_
          refine xb_ri (va_runV (As := [.int r]) (rest := []) ⟨hx, hb, hml, hown, hts⟩ (cM_store l D M tv hdfa_72 (Nat.lt_of_le_of_lt hz_72 (a80 (abs40 _) (abs40 _))) hng_72 c4) (cwV 1 hts (gM_V 71 yX2_store (.code yX2_store cX2_store 5 (some .int)) (by decide +kernel) mw_62) rfl rfl rfl (by decide +kernel) ⟨Nat.le_of_ble_eq_true rfl, Nat.le_of_ble_eq_true rfl⟩) (xb_pv hP hK hD rfl rfl (md_a0 M)) rfl rfl hl.1 rfl (lv_room (Nat.le_of_ble_eq_true rfl)) dX2_sum_77 ⟨Nat.le_of_ble_eq_true rfl, Nat.le_of_ble_eq_true rfl⟩) hD hS hA (fun r77 ws6 H locs hws6 hP hD hS => ?_)
          exact xb_ir hx hb hr hlocks hP hK hD hS dX2_sum_80 (fin_kR T hws6 (sum_eq c4 (by have ht : tu = 1 := c64.symm; rw [hs_72, (svp c31).1, (svn c54).2, ht, if_pos rfl])))
        · refine lv_iconst (v := 1) hx hb dX2_sum_67 (by decide) ?_
          refine lv_goto (tgt := 72) hx hb dX2_sum_68 (by decide) ?_
          refine xb_rv (va_runV (As := [.int 1]) (rest := []) ⟨hx, hb, hml, hown, hts⟩ (cM_join l D M hdfa_19 hdfc_47 (a80 (abs40 _) (abs40 _)) (lw := 1) (Or.inr rfl) (Or.inl rfl)) (cwV 1 hts (gM_V 67 yX2_join (.code yX2_join cX2_join 2 none) (by decide +kernel) mw_57) rfl rfl rfl (by decide +kernel) ⟨Nat.le_of_ble_eq_true rfl, Nat.le_of_ble_eq_true rfl⟩) (xb_pv hP hK hD rfl rfl (md_a0 M)) rfl rfl hl.1 rfl (lv_room (Nat.le_of_ble_eq_true rfl)) dX2_sum_72 ⟨Nat.le_of_ble_eq_true rfl, Nat.le_of_ble_eq_true rfl⟩) hD hS hA (fun ws5 H locs hws5 hP hD hS => ?_)
          obtain ⟨fa_72, fr_72, ng_72, z_72, M, hng_72, hdfa_72, hz_72, hs_72⟩ := hws5
          refine lv_aload_n hx hb dX2_sum_75 rfl (lv_at hl 0 rfl) ?_
          refine lv_iload_n hx hb dX2_sum_76 rfl (lv_at hl 1 rfl) ?_
          refine xb_ri (va_runV (As := [.int r]) (rest := []) ⟨hx, hb, hml, hown, hts⟩ (cM_store l D M tv hdfa_72 (Nat.lt_of_le_of_lt hz_72 (a80 (abs40 _) (abs40 _))) hng_72 c4) (cwV 1 hts (gM_V 71 yX2_store (.code yX2_store cX2_store 5 (some .int)) (by decide +kernel) mw_62) rfl rfl rfl (by decide +kernel) ⟨Nat.le_of_ble_eq_true rfl, Nat.le_of_ble_eq_true rfl⟩) (xb_pv hP hK hD rfl rfl (md_a0 M)) rfl rfl hl.1 rfl (lv_room (Nat.le_of_ble_eq_true rfl)) dX2_sum_77 ⟨Nat.le_of_ble_eq_true rfl, Nat.le_of_ble_eq_true rfl⟩) hD hS hA (fun r77 ws6 H locs hws6 hP hD hS => ?_)
          exact xb_ir hx hb hr hlocks hP hK hD hS dX2_sum_80 (fin_kR T hws6 (sum_eq c4 (by have ht : tu = 0 := n10 htu (fun q => c64 q.symm); rw [hs_72, (svp c31).1, (svn c54).1, ht, if_neg (by decide)])))
    · rw [lg_cmp_ge] at c31
      refine lv_iconst (v := 1) hx hb dX2_sum_34 (by decide) ?_
      refine lv_goto (tgt := 39) hx hb dX2_sum_35 (by decide) ?_
      refine va_put (D := D) (ci := ciM) (v := .int 1) (ty := .boolean) (C := RX2) (T := TX2) (N := 8) hx hb hts inM tyX2 tyX2_ok nmX2 hown hK hP hD hS 10 (md_a0 M) rfl 7 (by decide) (hts _ (inT mw_10)) (fun _ h9 => h9) rfl (by decide +kernel) rfl rfl (Nat.le_of_ble_eq_true rfl) dX2_sum_39 (fun H locs hP hD hS => ?_)
      obtain ⟨ws3, hws3⟩ : ∃ q_, q_ = ws2.set 10 (ad 0, .inr (ciM, [.ref (ad 1), .ref (ad 2), .ref (ad 3), .ref (ad 4), .ref (ad 5), .ref (ad 6), .ref (ad 7), .int 1])) := ⟨_, rfl⟩
      have hP : va_P D vwCl ws3 H := by rw [hws3]; exact hP
      have hD : va_D A ws3 := by rw [hws3]; exact hD
      have M := md_sng M hws3
      refine lv_lload_n hx hb dX2_sum_42 rfl (lv_at hl 2 rfl) ?_
      refine lv_aload_n hx hb dX2_sum_43 rfl (lv_at hl 0 rfl) ?_
      refine va_get (D := D) (ci := ciM) (v := .ref (ad 6)) (C := RX2) (T := TX2) (N := 8) hx hb hts inM hown hK hP 10 (md_a0 M) rfl 5 (by decide) (hts _ (inT mw_11)) (fun _ h9 => h9) rfl dX2_sum_44 ?_
      refine xb_rv (va_runS (As := [.long v, .ref (ad 6)]) (rest := []) ⟨hx, hb, hml, hown, hts⟩ (cM_write l D (md_a6 M) (md_t5 M) v) (va_cwS 2 hts (gM_S 63 yX2_write (.code yX2_write cX2_write 7 none) (by decide +kernel) mw_56) rfl rfl rfl (by decide +kernel) ⟨Nat.le_of_ble_eq_true rfl, Nat.le_of_ble_eq_true rfl⟩) (xb_ps rfl hP hK hD) rfl rfl hl.1 rfl (lv_room (Nat.le_of_ble_eq_true rfl)) dX2_sum_47 ⟨Nat.le_of_ble_eq_true rfl, Nat.le_of_ble_eq_true rfl⟩) hD hS hA (fun ws4 H locs hws4 hP hD hS => ?_)
      obtain ⟨fc_47, hws4, hdfc_47⟩ := hws4
      have M := md_sfc M hws4
      have hdfc_47 : dg fc_47 (v.toInt.natAbs) := hdfc_47
      refine lv_aload_n hx hb dX2_sum_50 rfl (lv_at hl 0 rfl) ?_
      refine lv_lload_n hx hb dX2_sum_51 rfl (lv_at hl 2 rfl) ?_
      refine lv_lconst (v := 0) hx hb dX2_sum_52 (by decide) ?_
      refine W.lcmp hx hb dX2_sum_53 ?_
      refine lv_if_ge (tgt := 61) hx hb dX2_sum_54 (by decide) (fun c54 => ?_) (fun c54 => ?_)
      · rw [lg_cmp_ge] at c54
        refine lv_iconst (v := 0) hx hb dX2_sum_61 (by decide) ?_
        refine lv_iload hx hb dX2_sum_62 (lv_at hl 3 rfl) ?_
        refine lv_icmp_eq (tgt := 71) hx hb dX2_sum_64 (by decide) (fun c64 => ?_) (fun c64 => ?_)
        · refine lv_iconst (v := 0) hx hb dX2_sum_71 (by decide) ?_
          refine xb_rv (va_runV (As := [.int 0]) (rest := []) ⟨hx, hb, hml, hown, hts⟩ (cM_join l D M hdfa_19 hdfc_47 (a80 (abs40 _) (abs40 _)) (lw := 0) (Or.inl rfl) (Or.inr rfl)) (cwV 1 hts (gM_V 67 yX2_join (.code yX2_join cX2_join 2 none) (by decide +kernel) mw_57) rfl rfl rfl (by decide +kernel) ⟨Nat.le_of_ble_eq_true rfl, Nat.le_of_ble_eq_true rfl⟩) (xb_pv hP hK hD rfl rfl (md_a0 M)) rfl rfl hl.1 rfl (lv_room (Nat.le_of_ble_eq_true rfl)) dX2_sum_72 ⟨Nat.le_of_ble_eq_true rfl, Nat.le_of_ble_eq_true rfl⟩) hD hS hA (fun ws5 H locs hws5 hP hD hS => ?_)
          obtain ⟨fa_72, fr_72, ng_72, z_72, M, hng_72, hdfa_72, hz_72, hs_72⟩ := hws5
          refine lv_aload_n hx hb dX2_sum_75 rfl (lv_at hl 0 rfl) ?_
          refine lv_iload_n hx hb dX2_sum_76 rfl (lv_at hl 1 rfl) ?_
          refine xb_ri (va_runV (As := [.int r]) (rest := []) ⟨hx, hb, hml, hown, hts⟩ (cM_store l D M tv hdfa_72 (Nat.lt_of_le_of_lt hz_72 (a80 (abs40 _) (abs40 _))) hng_72 c4) (cwV 1 hts (gM_V 71 yX2_store (.code yX2_store cX2_store 5 (some .int)) (by decide +kernel) mw_62) rfl rfl rfl (by decide +kernel) ⟨Nat.le_of_ble_eq_true rfl, Nat.le_of_ble_eq_true rfl⟩) (xb_pv hP hK hD rfl rfl (md_a0 M)) rfl rfl hl.1 rfl (lv_room (Nat.le_of_ble_eq_true rfl)) dX2_sum_77 ⟨Nat.le_of_ble_eq_true rfl, Nat.le_of_ble_eq_true rfl⟩) hD hS hA (fun r77 ws6 H locs hws6 hP hD hS => ?_)
          exact xb_ir hx hb hr hlocks hP hK hD hS dX2_sum_80 (fin_kR T hws6 (sum_eq c4 (by have ht : tu = 0 := c64.symm; rw [hs_72, (svn c31).1, (svp c54).1, ht, if_neg (by decide)])))
        · refine lv_iconst (v := 1) hx hb dX2_sum_67 (by decide) ?_
          refine lv_goto (tgt := 72) hx hb dX2_sum_68 (by decide) ?_
          refine xb_rv (va_runV (As := [.int 1]) (rest := []) ⟨hx, hb, hml, hown, hts⟩ (cM_join l D M hdfa_19 hdfc_47 (a80 (abs40 _) (abs40 _)) (lw := 1) (Or.inr rfl) (Or.inr rfl)) (cwV 1 hts (gM_V 67 yX2_join (.code yX2_join cX2_join 2 none) (by decide +kernel) mw_57) rfl rfl rfl (by decide +kernel) ⟨Nat.le_of_ble_eq_true rfl, Nat.le_of_ble_eq_true rfl⟩) (xb_pv hP hK hD rfl rfl (md_a0 M)) rfl rfl hl.1 rfl (lv_room (Nat.le_of_ble_eq_true rfl)) dX2_sum_72 ⟨Nat.le_of_ble_eq_true rfl, Nat.le_of_ble_eq_true rfl⟩) hD hS hA (fun ws5 H locs hws5 hP hD hS => ?_)
          obtain ⟨fa_72, fr_72, ng_72, z_72, M, hng_72, hdfa_72, hz_72, hs_72⟩ := hws5
          refine lv_aload_n hx hb dX2_sum_75 rfl (lv_at hl 0 rfl) ?_
          refine lv_iload_n hx hb dX2_sum_76 rfl (lv_at hl 1 rfl) ?_
          refine xb_ri (va_runV (As := [.int r]) (rest := []) ⟨hx, hb, hml, hown, hts⟩ (cM_store l D M tv hdfa_72 (Nat.lt_of_le_of_lt hz_72 (a80 (abs40 _) (abs40 _))) hng_72 c4) (cwV 1 hts (gM_V 71 yX2_store (.code yX2_store cX2_store 5 (some .int)) (by decide +kernel) mw_62) rfl rfl rfl (by decide +kernel) ⟨Nat.le_of_ble_eq_true rfl, Nat.le_of_ble_eq_true rfl⟩) (xb_pv hP hK hD rfl rfl (md_a0 M)) rfl rfl hl.1 rfl (lv_room (Nat.le_of_ble_eq_true rfl)) dX2_sum_77 ⟨Nat.le_of_ble_eq_true rfl, Nat.le_of_ble_eq_true rfl⟩) hD hS hA (fun r77 ws6 H locs hws6 hP hD hS => ?_)
          exact xb_ir hx hb hr hlocks hP hK hD hS dX2_sum_80 (fin_kR T hws6 (sum_eq c4 (by have ht : tu = 1 := n01 htu (fun q => c64 q.symm); rw [hs_72, (svn c31).1, (svp c54).2, ht, if_pos rfl])))
      · rw [lg_cmp_ge] at c54
        refine lv_iconst (v := 1) hx hb dX2_sum_57 (by decide) ?_
        refine lv_goto (tgt := 62) hx hb dX2_sum_58 (by decide) ?_
        refine lv_iload hx hb dX2_sum_62 (lv_at hl 3 rfl) ?_
        refine lv_icmp_eq (tgt := 71) hx hb dX2_sum_64 (by decide) (fun c64 => ?_) (fun c64 => ?_)
        · refine lv_iconst (v := 0) hx hb dX2_sum_71 (by decide) ?_
          refine xb_rv (va_runV (As := [.int 0]) (rest := []) ⟨hx, hb, hml, hown, hts⟩ (cM_join l D M hdfa_19 hdfc_47 (a80 (abs40 _) (abs40 _)) (lw := 0) (Or.inl rfl) (Or.inr rfl)) (cwV 1 hts (gM_V 67 yX2_join (.code yX2_join cX2_join 2 none) (by decide +kernel) mw_57) rfl rfl rfl (by decide +kernel) ⟨Nat.le_of_ble_eq_true rfl, Nat.le_of_ble_eq_true rfl⟩) (xb_pv hP hK hD rfl rfl (md_a0 M)) rfl rfl hl.1 rfl (lv_room (Nat.le_of_ble_eq_true rfl)) dX2_sum_72 ⟨Nat.le_of_ble_eq_true rfl, Nat.le_of_ble_eq_true rfl⟩) hD hS hA (fun ws5 H locs hws5 hP hD hS => ?_)
          obtain ⟨fa_72, fr_72, ng_72, z_72, M, hng_72, hdfa_72, hz_72, hs_72⟩ := hws5
          refine lv_aload_n hx hb dX2_sum_75 rfl (lv_at hl 0 rfl) ?_
          refine lv_iload_n hx hb dX2_sum_76 rfl (lv_at hl 1 rfl) ?_
          refine xb_ri (va_runV (As := [.int r]) (rest := []) ⟨hx, hb, hml, hown, hts⟩ (cM_store l D M tv hdfa_72 (Nat.lt_of_le_of_lt hz_72 (a80 (abs40 _) (abs40 _))) hng_72 c4) (cwV 1 hts (gM_V 71 yX2_store (.code yX2_store cX2_store 5 (some .int)) (by decide +kernel) mw_62) rfl rfl rfl (by decide +kernel) ⟨Nat.le_of_ble_eq_true rfl, Nat.le_of_ble_eq_true rfl⟩) (xb_pv hP hK hD rfl rfl (md_a0 M)) rfl rfl hl.1 rfl (lv_room (Nat.le_of_ble_eq_true rfl)) dX2_sum_77 ⟨Nat.le_of_ble_eq_true rfl, Nat.le_of_ble_eq_true rfl⟩) hD hS hA (fun r77 ws6 H locs hws6 hP hD hS => ?_)
          exact xb_ir hx hb hr hlocks hP hK hD hS dX2_sum_80 (fin_kR T hws6 (sum_eq c4 (by have ht : tu = 1 := c64.symm; rw [hs_72, (svn c31).1, (svn c54).2, ht, if_pos rfl])))
        · refine lv_iconst (v := 1) hx hb dX2_sum_67 (by decide) ?_
          refine lv_goto (tgt := 72) hx hb dX2_sum_68 (by decide) ?_
          refine xb_rv (va_runV (As := [.int 1]) (rest := []) ⟨hx, hb, hml, hown, hts⟩ (cM_join l D M hdfa_19 hdfc_47 (a80 (abs40 _) (abs40 _)) (lw := 1) (Or.inr rfl) (Or.inr rfl)) (cwV 1 hts (gM_V 67 yX2_join (.code yX2_join cX2_join 2 none) (by decide +kernel) mw_57) rfl rfl rfl (by decide +kernel) ⟨Nat.le_of_ble_eq_true rfl, Nat.le_of_ble_eq_true rfl⟩) (xb_pv hP hK hD rfl rfl (md_a0 M)) rfl rfl hl.1 rfl (lv_room (Nat.le_of_ble_eq_true rfl)) dX2_sum_72 ⟨Nat.le_of_ble_eq_true rfl, Nat.le_of_ble_eq_true rfl⟩) hD hS hA (fun ws5 H locs hws5 hP hD hS => ?_)
          obtain ⟨fa_72, fr_72, ng_72, z_72, M, hng_72, hdfa_72, hz_72, hs_72⟩ := hws5
          refine lv_aload_n hx hb dX2_sum_75 rfl (lv_at hl 0 rfl) ?_
          refine lv_iload_n hx hb dX2_sum_76 rfl (lv_at hl 1 rfl) ?_
          refine xb_ri (va_runV (As := [.int r]) (rest := []) ⟨hx, hb, hml, hown, hts⟩ (cM_store l D M tv hdfa_72 (Nat.lt_of_le_of_lt hz_72 (a80 (abs40 _) (abs40 _))) hng_72 c4) (cwV 1 hts (gM_V 71 yX2_store (.code yX2_store cX2_store 5 (some .int)) (by decide +kernel) mw_62) rfl rfl rfl (by decide +kernel) ⟨Nat.le_of_ble_eq_true rfl, Nat.le_of_ble_eq_true rfl⟩) (xb_pv hP hK hD rfl rfl (md_a0 M)) rfl rfl hl.1 rfl (lv_room (Nat.le_of_ble_eq_true rfl)) dX2_sum_77 ⟨Nat.le_of_ble_eq_true rfl, Nat.le_of_ble_eq_true rfl⟩) hD hS hA (fun r77 ws6 H locs hws6 hP hD hS => ?_)
          exact xb_ir hx hb hr hlocks hP hK hD hS dX2_sum_80 (fin_kR T hws6 (sum_eq c4 (by have ht : tu = 0 := n10 htu (fun q => c64 q.symm); rw [hs_72, (svn c31).1, (svn c54).1, ht, if_neg (by decide)])))
  · have c4 := bz_0 hr1 c4
    refine lv_iconst (v := (-1)) hx hb dX2_sum_7 (by decide) ?_
    exact xb_ir hx hb hr hlocks hP hK hD hS dX2_sum_8 (fin_no M T (by rw [sp_sum, if_neg c4]))
set_option maxHeartbeats 4000000 in
set_option maxRecDepth 100000 in
theorem cM_add (l : Launch) (D : va_G) {tys : xT} {ws : va_W} {sz : Nat} {w0 : va_W} {ad : Nat → Nat} {cB : Nat → ClassId} {rf : Nat → Int64} {tf bf fa fb fc fr : Nat → Int32} {ng : Int32} (M : md w0 ws tys ad cB rf tf bf fa fb fc fr ng) {tv : Nat → Int} (T : mt tf bf tv) (r : Int32) (v : Int64) : xM l yX2_add (.code yX2_add cX2_add 4 (some .int) :: mdT) ({ frames := 3, cells := 0, slots := 0, locals := 74 }) D tys ws sz [.ref (ad 0), .int r, .long v] (xQi D tys (fun a w => mdS w0 w tys ad cB (sp_add (rf, tv) r v).2 ∧ a = (sp_add (rf, tv) r v).1)) 0 0 := by
  refine xb_m (cc := cX2_add) (maxL := 4) (ret := (some .int)) (by decide) rfl (Nat.le_of_ble_eq_true rfl) ?_
  intro p e s m below meth c A ls hx hb hr hml hown hts hlocks hnm hA hP hK hD hS hl
  have hl : lv_has ls 4 [(0, .ref (ad 0)), (1, .int r), (2, .long v)] := hl
  have hown : s.vm.findClass RX2 = some m.cls := hown
  refine lv_aload_n hx hb dX2_add_0 rfl (lv_at hl 0 rfl) ?_
  refine lv_iload_n hx hb dX2_add_1 rfl (lv_at hl 1 rfl) ?_
  refine lv_lload_n hx hb dX2_add_2 rfl (lv_at hl 2 rfl) ?_
  refine lv_iconst (v := 0) hx hb dX2_add_3 (by decide) ?_
  refine xb_ri (va_runV (As := [.int r, .long v, .int 0]) (rest := []) ⟨hx, hb, hml, hown, hts⟩ (cM_sum l D M T r v (tu := 0) (Or.inl rfl)) (cwV 3 hts (gM_V 75 yX2_sum (.code yX2_sum cX2_sum 5 (some .int)) (by decide +kernel) mw_55) rfl rfl rfl (by decide +kernel) ⟨Nat.le_of_ble_eq_true rfl, Nat.le_of_ble_eq_true rfl⟩) (xb_pv hP hK hD rfl rfl (md_a0 M)) rfl rfl hl.1 rfl (lv_room (Nat.le_of_ble_eq_true rfl)) dX2_add_4 ⟨Nat.le_of_ble_eq_true rfl, Nat.le_of_ble_eq_true rfl⟩) hD hS hA (fun r4 ws1 H locs hws1 hP hD hS => ?_)
  exact xb_ir hx hb hr hlocks hP hK hD hS dX2_add_7 ((by rw [sp_add, sp_sum, if_neg (show ¬ (0 : Int32) = 1 by decide)] : sp_add (rf, tv) r v = sp_sum (rf, tv) r v 0) ▸ hws1)
set_option maxHeartbeats 4000000 in
set_option maxRecDepth 100000 in
theorem cM_sub (l : Launch) (D : va_G) {tys : xT} {ws : va_W} {sz : Nat} {w0 : va_W} {ad : Nat → Nat} {cB : Nat → ClassId} {rf : Nat → Int64} {tf bf fa fb fc fr : Nat → Int32} {ng : Int32} (M : md w0 ws tys ad cB rf tf bf fa fb fc fr ng) {tv : Nat → Int} (T : mt tf bf tv) (r : Int32) (v : Int64) : xM l yX2_subtract (.code yX2_subtract cX2_subtract 4 (some .int) :: mdT) ({ frames := 3, cells := 0, slots := 0, locals := 74 }) D tys ws sz [.ref (ad 0), .int r, .long v] (xQi D tys (fun a w => mdS w0 w tys ad cB (sp_sub (rf, tv) r v).2 ∧ a = (sp_sub (rf, tv) r v).1)) 0 0 := by
  refine xb_m (cc := cX2_subtract) (maxL := 4) (ret := (some .int)) (by decide) rfl (Nat.le_of_ble_eq_true rfl) ?_
  intro p e s m below meth c A ls hx hb hr hml hown hts hlocks hnm hA hP hK hD hS hl
  have hl : lv_has ls 4 [(0, .ref (ad 0)), (1, .int r), (2, .long v)] := hl
  have hown : s.vm.findClass RX2 = some m.cls := hown
  refine lv_aload_n hx hb dX2_subtract_0 rfl (lv_at hl 0 rfl) ?_
  refine lv_iload_n hx hb dX2_subtract_1 rfl (lv_at hl 1 rfl) ?_
  refine lv_lload_n hx hb dX2_subtract_2 rfl (lv_at hl 2 rfl) ?_
  refine lv_iconst (v := 1) hx hb dX2_subtract_3 (by decide) ?_
  refine xb_ri (va_runV (As := [.int r, .long v, .int 1]) (rest := []) ⟨hx, hb, hml, hown, hts⟩ (cM_sum l D M T r v (tu := 1) (Or.inr rfl)) (cwV 3 hts (gM_V 75 yX2_sum (.code yX2_sum cX2_sum 5 (some .int)) (by decide +kernel) mw_55) rfl rfl rfl (by decide +kernel) ⟨Nat.le_of_ble_eq_true rfl, Nat.le_of_ble_eq_true rfl⟩) (xb_pv hP hK hD rfl rfl (md_a0 M)) rfl rfl hl.1 rfl (lv_room (Nat.le_of_ble_eq_true rfl)) dX2_subtract_4 ⟨Nat.le_of_ble_eq_true rfl, Nat.le_of_ble_eq_true rfl⟩) hD hS hA (fun r4 ws1 H locs hws1 hP hD hS => ?_)
  exact xb_ir hx hb hr hlocks hP hK hD hS dX2_subtract_7 ((by rw [sp_sub, sp_sum, if_pos (show (1 : Int32) = 1 from rfl), Int.sub_eq_add_neg] : sp_sub (rf, tv) r v = sp_sum (rf, tv) r v 1) ▸ hws1)
set_option maxHeartbeats 4000000 in
set_option maxRecDepth 100000 in
theorem cM_times (l : Launch) (D : va_G) {tys : xT} {ws : va_W} {sz : Nat} {w0 : va_W} {ad : Nat → Nat} {cB : Nat → ClassId} {rf : Nat → Int64} {tf bf fa fb fc fr : Nat → Int32} {ng : Int32} (M : md w0 ws tys ad cB rf tf bf fa fb fc fr ng) {tv : Nat → Int} (T : mt tf bf tv) (r : Int32) (v : Int64) : xM l yX2_times (.code yX2_times cX2_times 4 (some .int) :: mdT) ({ frames := 2, cells := 0, slots := 0, locals := 50 }) D tys ws sz [.ref (ad 0), .int r, .long v] (xQi D tys (fun a w => mdS w0 w tys ad cB (sp_times (rf, tv) r v).2 ∧ a = (sp_times (rf, tv) r v).1)) 0 0 := by
  refine xb_m (cc := cX2_times) (maxL := 4) (ret := (some .int)) (by decide) rfl (Nat.le_of_ble_eq_true rfl) ?_
  intro p e s m below meth c A ls hx hb hr hml hown hts hlocks hnm hA hP hK hD hS hl
  have hl : lv_has ls 4 [(0, .ref (ad 0)), (1, .int r), (2, .long v)] := hl
  have hown : s.vm.findClass RX2 = some m.cls := hown
  refine lv_iload_n hx hb dX2_times_0 rfl (lv_at hl 1 rfl) ?_
  refine xb_ri (va_runS (As := [.int r]) (rest := []) ⟨hx, hb, hml, hown, hts⟩ (cM_isR l D r) (va_cwS 1 hts (gM_S 33 yX2_isRegister (.code yX2_isRegister cX2_isRegister 1 (some .boolean)) (by decide +kernel) mw_52) rfl rfl rfl (by decide +kernel) ⟨Nat.le_of_ble_eq_true rfl, Nat.le_of_ble_eq_true rfl⟩) (xb_ps rfl hP hK hD) rfl rfl hl.1 rfl (lv_room (Nat.le_of_ble_eq_true rfl)) dX2_times_1 ⟨Nat.le_of_ble_eq_true rfl, Nat.le_of_ble_eq_true rfl⟩) hD hS hA (fun r1 ws1 H locs hws1 hP hD hS => ?_)
  obtain ⟨hr1, rfl⟩ := hws1
  refine lv_if_ne (tgt := 9) hx hb dX2_times_4 (by decide) (fun c4 => ?_) (fun c4 => ?_)
  · have c4 := bz_1 hr1 c4
    refine lv_aload_n hx hb dX2_times_9 rfl (lv_at hl 0 rfl) ?_
    refine va_get (D := D) (ci := ciM) (v := .ref (ad 1)) (C := RX2) (T := TX2) (N := 8) hx hb hts inM hown hK hP 10 (md_a0 M) rfl 0 (by decide) (hts _ (inT mw_3)) (fun _ h9 => h9) rfl dX2_times_10 ?_
    refine lv_iload_n hx hb dX2_times_13 rfl (lv_at hl 1 rfl) ?_
    refine md_lld hx hb hK hP M c4 dX2_times_14 ?_
    refine lv_aload_n hx hb dX2_times_15 rfl (lv_at hl 0 rfl) ?_
    refine va_get (D := D) (ci := ciM) (v := .ref (ad 4)) (C := RX2) (T := TX2) (N := 8) hx hb hts inM hown hK hP 10 (md_a0 M) rfl 3 (by decide) (hts _ (inT mw_7)) (fun _ h9 => h9) rfl dX2_times_16 ?_
    refine xb_rv (va_runS (As := [.long (rf r.toNatClampNeg), .ref (ad 4)]) (rest := []) ⟨hx, hb, hml, hown, hts⟩ (cM_write l D (md_a4 M) (md_t3 M) (rf r.toNatClampNeg)) (va_cwS 2 hts (gM_S 63 yX2_write (.code yX2_write cX2_write 7 none) (by decide +kernel) mw_56) rfl rfl rfl (by decide +kernel) ⟨Nat.le_of_ble_eq_true rfl, Nat.le_of_ble_eq_true rfl⟩) (xb_ps rfl hP hK hD) rfl rfl hl.1 rfl (lv_room (Nat.le_of_ble_eq_true rfl)) dX2_times_19 ⟨Nat.le_of_ble_eq_true rfl, Nat.le_of_ble_eq_true rfl⟩) hD hS hA (fun ws2 H locs hws2 hP hD hS => ?_)
    obtain ⟨fa_19, hws2, hdfa_19⟩ := hws2
    have M := md_sfa M hws2
    have hdfa_19 : dg fa_19 ((rf r.toNatClampNeg).toInt.natAbs) := hdfa_19
    refine lv_lload_n hx hb dX2_times_22 rfl (lv_at hl 2 rfl) ?_
    refine lv_aload_n hx hb dX2_times_23 rfl (lv_at hl 0 rfl) ?_
    refine va_get (D := D) (ci := ciM) (v := .ref (ad 5)) (C := RX2) (T := TX2) (N := 8) hx hb hts inM hown hK hP 10 (md_a0 M) rfl 4 (by decide) (hts _ (inT mw_29)) (fun _ h9 => h9) rfl dX2_times_24 ?_
    refine xb_rv (va_runS (As := [.long v, .ref (ad 5)]) (rest := []) ⟨hx, hb, hml, hown, hts⟩ (cM_write l D (md_a5 M) (md_t4 M) v) (va_cwS 2 hts (gM_S 63 yX2_write (.code yX2_write cX2_write 7 none) (by decide +kernel) mw_56) rfl rfl rfl (by decide +kernel) ⟨Nat.le_of_ble_eq_true rfl, Nat.le_of_ble_eq_true rfl⟩) (xb_ps rfl hP hK hD) rfl rfl hl.1 rfl (lv_room (Nat.le_of_ble_eq_true rfl)) dX2_times_27 ⟨Nat.le_of_ble_eq_true rfl, Nat.le_of_ble_eq_true rfl⟩) hD hS hA (fun ws3 H locs hws3 hP hD hS => ?_)
    obtain ⟨fb_27, hws3, hdfb_27⟩ := hws3
    have M := md_sfb M hws3
    have hdfb_27 : dg fb_27 (v.toInt.natAbs) := hdfb_27
    refine lv_aload_n hx hb dX2_times_30 rfl (lv_at hl 0 rfl) ?_
    refine xb_rv (va_runV (As := []) (rest := []) ⟨hx, hb, hml, hown, hts⟩ (cM_mul l D M hdfa_19 hdfb_27 (abs40 _) (abs40 _)) (cwV 0 hts (gM_V 79 yX2_multiply (.code yX2_multiply cX2_multiply 5 none) (by decide +kernel) mw_65) rfl rfl rfl (by decide +kernel) ⟨Nat.le_of_ble_eq_true rfl, Nat.le_of_ble_eq_true rfl⟩) (xb_pv hP hK hD rfl rfl (md_a0 M)) rfl rfl hl.1 rfl (lv_room (Nat.le_of_ble_eq_true rfl)) dX2_times_31 ⟨Nat.le_of_ble_eq_true rfl, Nat.le_of_ble_eq_true rfl⟩) hD hS hA (fun ws4 H locs hws4 hP hD hS => ?_)
    obtain ⟨fa_31, fc_31, M, hdfa_31⟩ := hws4
    refine lv_aload_n hx hb dX2_times_34 rfl (lv_at hl 0 rfl) ?_
    refine lv_aload_n hx hb dX2_times_35 rfl (lv_at hl 0 rfl) ?_
    refine va_get (D := D) (ci := ciM) (v := .ref (ad 1)) (C := RX2) (T := TX2) (N := 8) hx hb hts inM hown hK hP 10 (md_a0 M) rfl 0 (by decide) (hts _ (inT mw_3)) (fun _ h9 => h9) rfl dX2_times_36 ?_
    refine lv_iload_n hx hb dX2_times_39 rfl (lv_at hl 1 rfl) ?_
    refine md_lld hx hb hK hP M c4 dX2_times_40 ?_
    refine lv_lconst (v := 0) hx hb dX2_times_41 (by decide) ?_
    refine W.lcmp hx hb dX2_times_42 ?_
    refine lv_if_ge (tgt := 50) hx hb dX2_times_43 (by decide) (fun c43 => ?_) (fun c43 => ?_)
    · rw [lg_cmp_ge] at c43
      refine lv_iconst (v := 0) hx hb dX2_times_50 (by decide) ?_
      refine lv_lload_n hx hb dX2_times_51 rfl (lv_at hl 2 rfl) ?_
      refine lv_lconst (v := 0) hx hb dX2_times_52 (by decide) ?_
      refine W.lcmp hx hb dX2_times_53 ?_
      refine lv_if_ge (tgt := 61) hx hb dX2_times_54 (by decide) (fun c54 => ?_) (fun c54 => ?_)
      · rw [lg_cmp_ge] at c54
        refine lv_iconst (v := 0) hx hb dX2_times_61 (by decide) ?_
        refine lv_icmp_eq (tgt := 69) hx hb dX2_times_62 (by decide) (fun _ => ?_) (fun q => absurd rfl q)
        refine lv_iconst (v := 0) hx hb dX2_times_69 (by decide) ?_
        refine va_put (D := D) (ci := ciM) (v := .int 0) (ty := .boolean) (C := RX2) (T := TX2) (N := 8) hx hb hts inM tyX2 tyX2_ok nmX2 hown hK hP hD hS 10 (md_a0 M) rfl 7 (by decide) (hts _ (inT mw_10)) (fun _ h9 => h9) rfl (by decide +kernel) rfl rfl (Nat.le_of_ble_eq_true rfl) dX2_times_70 (fun H locs hP hD hS => ?_)
        obtain ⟨ws5, hws5⟩ : ∃ q_, q_ = ws4.set 10 (ad 0, .inr (ciM, [.ref (ad 1), .ref (ad 2), .ref (ad 3), .ref (ad 4), .ref (ad 5), .ref (ad 6), .ref (ad 7), .int 0])) := ⟨_, rfl⟩
        have hP : va_P D vwCl ws5 H := by rw [hws5]; exact hP
        have hD : va_D A ws5 := by rw [hws5]; exact hD
        have M := md_sng M hws5
        refine lv_aload_n hx hb dX2_times_73 rfl (lv_at hl 0 rfl) ?_
        refine lv_iload_n hx hb dX2_times_74 rfl (lv_at hl 1 rfl) ?_
        refine xb_ri (va_runV (As := [.int r]) (rest := []) ⟨hx, hb, hml, hown, hts⟩ (cM_store l D M tv hdfa_31 (m80 (abs40 _) (abs40 _)) (Or.inl rfl) c4) (cwV 1 hts (gM_V 71 yX2_store (.code yX2_store cX2_store 5 (some .int)) (by decide +kernel) mw_62) rfl rfl rfl (by decide +kernel) ⟨Nat.le_of_ble_eq_true rfl, Nat.le_of_ble_eq_true rfl⟩) (xb_pv hP hK hD rfl rfl (md_a0 M)) rfl rfl hl.1 rfl (lv_room (Nat.le_of_ble_eq_true rfl)) dX2_times_75 ⟨Nat.le_of_ble_eq_true rfl, Nat.le_of_ble_eq_true rfl⟩) hD hS hA (fun r75 ws6 H locs hws6 hP hD hS => ?_)
        exact xb_ir hx hb hr hlocks hP hK hD hS dX2_times_78 (fin_kR T hws6 (times_eq c4 (by rw [sv_mul (a := 0) (b := 0) (Or.inl rfl) (Or.inl rfl) (by decide), (svp c43).1, (svp c54).1])))
      · rw [lg_cmp_ge] at c54
        refine lv_iconst (v := 1) hx hb dX2_times_57 (by decide) ?_
        refine lv_goto (tgt := 62) hx hb dX2_times_58 (by decide) ?_
        refine lv_icmp_eq (tgt := 69) hx hb dX2_times_62 (by decide) (fun q => absurd q (by decide)) (fun _ => ?_)
        refine lv_iconst (v := 1) hx hb dX2_times_65 (by decide) ?_
        refine lv_goto (tgt := 70) hx hb dX2_times_66 (by decide) ?_
        refine va_put (D := D) (ci := ciM) (v := .int 1) (ty := .boolean) (C := RX2) (T := TX2) (N := 8) hx hb hts inM tyX2 tyX2_ok nmX2 hown hK hP hD hS 10 (md_a0 M) rfl 7 (by decide) (hts _ (inT mw_10)) (fun _ h9 => h9) rfl (by decide +kernel) rfl rfl (Nat.le_of_ble_eq_true rfl) dX2_times_70 (fun H locs hP hD hS => ?_)
        obtain ⟨ws5, hws5⟩ : ∃ q_, q_ = ws4.set 10 (ad 0, .inr (ciM, [.ref (ad 1), .ref (ad 2), .ref (ad 3), .ref (ad 4), .ref (ad 5), .ref (ad 6), .ref (ad 7), .int 1])) := ⟨_, rfl⟩
        have hP : va_P D vwCl ws5 H := by rw [hws5]; exact hP
        have hD : va_D A ws5 := by rw [hws5]; exact hD
        have M := md_sng M hws5
        refine lv_aload_n hx hb dX2_times_73 rfl (lv_at hl 0 rfl) ?_
        refine lv_iload_n hx hb dX2_times_74 rfl (lv_at hl 1 rfl) ?_
        refine xb_ri (va_runV (As := [.int r]) (rest := []) ⟨hx, hb, hml, hown, hts⟩ (cM_store l D M tv hdfa_31 (m80 (abs40 _) (abs40 _)) (Or.inr rfl) c4) (cwV 1 hts (gM_V 71 yX2_store (.code yX2_store cX2_store 5 (some .int)) (by decide +kernel) mw_62) rfl rfl rfl (by decide +kernel) ⟨Nat.le_of_ble_eq_true rfl, Nat.le_of_ble_eq_true rfl⟩) (xb_pv hP hK hD rfl rfl (md_a0 M)) rfl rfl hl.1 rfl (lv_room (Nat.le_of_ble_eq_true rfl)) dX2_times_75 ⟨Nat.le_of_ble_eq_true rfl, Nat.le_of_ble_eq_true rfl⟩) hD hS hA (fun r75 ws6 H locs hws6 hP hD hS => ?_)
        exact xb_ir hx hb hr hlocks hP hK hD hS dX2_times_78 (fin_kR T hws6 (times_eq c4 (by rw [sv_mul (a := 0) (b := 1) (Or.inl rfl) (Or.inr rfl) (by decide), (svp c43).1, (svn c54).1])))
    · rw [lg_cmp_ge] at c43
      refine lv_iconst (v := 1) hx hb dX2_times_46 (by decide) ?_
      refine lv_goto (tgt := 51) hx hb dX2_times_47 (by decide) ?_
      refine lv_lload_n hx hb dX2_times_51 rfl (lv_at hl 2 rfl) ?_
      refine lv_lconst (v := 0) hx hb dX2_times_52 (by decide) ?_
      refine W.lcmp hx hb dX2_times_53 ?_
      refine lv_if_ge (tgt := 61) hx hb dX2_times_54 (by decide) (fun c54 => ?_) (fun c54 => ?_)
      · rw [lg_cmp_ge] at c54
        refine lv_iconst (v := 0) hx hb dX2_times_61 (by decide) ?_
        refine lv_icmp_eq (tgt := 69) hx hb dX2_times_62 (by decide) (fun q => absurd q (by decide)) (fun _ => ?_)
        refine lv_iconst (v := 1) hx hb dX2_times_65 (by decide) ?_
        refine lv_goto (tgt := 70) hx hb dX2_times_66 (by decide) ?_
        refine va_put (D := D) (ci := ciM) (v := .int 1) (ty := .boolean) (C := RX2) (T := TX2) (N := 8) hx hb hts inM tyX2 tyX2_ok nmX2 hown hK hP hD hS 10 (md_a0 M) rfl 7 (by decide) (hts _ (inT mw_10)) (fun _ h9 => h9) rfl (by decide +kernel) rfl rfl (Nat.le_of_ble_eq_true rfl) dX2_times_70 (fun H locs hP hD hS => ?_)
        obtain ⟨ws5, hws5⟩ : ∃ q_, q_ = ws4.set 10 (ad 0, .inr (ciM, [.ref (ad 1), .ref (ad 2), .ref (ad 3), .ref (ad 4), .ref (ad 5), .ref (ad 6), .ref (ad 7), .int 1])) := ⟨_, rfl⟩
        have hP : va_P D vwCl ws5 H := by rw [hws5]; exact hP
        have hD : va_D A ws5 := by rw [hws5]; exact hD
        have M := md_sng M hws5
        refine lv_aload_n hx hb dX2_times_73 rfl (lv_at hl 0 rfl) ?_
        refine lv_iload_n hx hb dX2_times_74 rfl (lv_at hl 1 rfl) ?_
        refine xb_ri (va_runV (As := [.int r]) (rest := []) ⟨hx, hb, hml, hown, hts⟩ (cM_store l D M tv hdfa_31 (m80 (abs40 _) (abs40 _)) (Or.inr rfl) c4) (cwV 1 hts (gM_V 71 yX2_store (.code yX2_store cX2_store 5 (some .int)) (by decide +kernel) mw_62) rfl rfl rfl (by decide +kernel) ⟨Nat.le_of_ble_eq_true rfl, Nat.le_of_ble_eq_true rfl⟩) (xb_pv hP hK hD rfl rfl (md_a0 M)) rfl rfl hl.1 rfl (lv_room (Nat.le_of_ble_eq_true rfl)) dX2_times_75 ⟨Nat.le_of_ble_eq_true rfl, Nat.le_of_ble_eq_true rfl⟩) hD hS hA (fun r75 ws6 H locs hws6 hP hD hS => ?_)
        exact xb_ir hx hb hr hlocks hP hK hD hS dX2_times_78 (fin_kR T hws6 (times_eq c4 (by rw [sv_mul (a := 1) (b := 0) (Or.inr rfl) (Or.inl rfl) (by decide), (svn c43).1, (svp c54).1])))
      · rw [lg_cmp_ge] at c54
        refine lv_iconst (v := 1) hx hb dX2_times_57 (by decide) ?_
        refine lv_goto (tgt := 62) hx hb dX2_times_58 (by decide) ?_
        refine lv_icmp_eq (tgt := 69) hx hb dX2_times_62 (by decide) (fun _ => ?_) (fun q => absurd rfl q)
        refine lv_iconst (v := 0) hx hb dX2_times_69 (by decide) ?_
        refine va_put (D := D) (ci := ciM) (v := .int 0) (ty := .boolean) (C := RX2) (T := TX2) (N := 8) hx hb hts inM tyX2 tyX2_ok nmX2 hown hK hP hD hS 10 (md_a0 M) rfl 7 (by decide) (hts _ (inT mw_10)) (fun _ h9 => h9) rfl (by decide +kernel) rfl rfl (Nat.le_of_ble_eq_true rfl) dX2_times_70 (fun H locs hP hD hS => ?_)
        obtain ⟨ws5, hws5⟩ : ∃ q_, q_ = ws4.set 10 (ad 0, .inr (ciM, [.ref (ad 1), .ref (ad 2), .ref (ad 3), .ref (ad 4), .ref (ad 5), .ref (ad 6), .ref (ad 7), .int 0])) := ⟨_, rfl⟩
        have hP : va_P D vwCl ws5 H := by rw [hws5]; exact hP
        have hD : va_D A ws5 := by rw [hws5]; exact hD
        have M := md_sng M hws5
        refine lv_aload_n hx hb dX2_times_73 rfl (lv_at hl 0 rfl) ?_
        refine lv_iload_n hx hb dX2_times_74 rfl (lv_at hl 1 rfl) ?_
        refine xb_ri (va_runV (As := [.int r]) (rest := []) ⟨hx, hb, hml, hown, hts⟩ (cM_store l D M tv hdfa_31 (m80 (abs40 _) (abs40 _)) (Or.inl rfl) c4) (cwV 1 hts (gM_V 71 yX2_store (.code yX2_store cX2_store 5 (some .int)) (by decide +kernel) mw_62) rfl rfl rfl (by decide +kernel) ⟨Nat.le_of_ble_eq_true rfl, Nat.le_of_ble_eq_true rfl⟩) (xb_pv hP hK hD rfl rfl (md_a0 M)) rfl rfl hl.1 rfl (lv_room (Nat.le_of_ble_eq_true rfl)) dX2_times_75 ⟨Nat.le_of_ble_eq_true rfl, Nat.le_of_ble_eq_true rfl⟩) hD hS hA (fun r75 ws6 H locs hws6 hP hD hS => ?_)
        exact xb_ir hx hb hr hlocks hP hK hD hS dX2_times_78 (fin_kR T hws6 (times_eq c4 (by rw [sv_mul (a := 1) (b := 1) (Or.inr rfl) (Or.inr rfl) (by decide), (svn c43).1, (svn c54).1])))
  · have c4 := bz_0 hr1 c4
    refine lv_iconst (v := (-1)) hx hb dX2_times_7 (by decide) ?_
    exact xb_ir hx hb hr hlocks hP hK hD hS dX2_times_8 (fin_no M T (by rw [sp_times, if_neg c4]))
