/-! the reference's registers and signs at work -/
section MR
variable {p : Program} {l : Launch} {e : Env} {R : Room} {s : State} {m : MethodId} {args : Array Value} {below : List Frame} {meth : Method} {c : Code} {H : Heap} {locs : List Loc} {cells slots : Nat} {Q : State → Prop}
variable {cc : ByteArray} {pc : Nat} {ls : Array Slot} {rest : List Value} {D : va_G} {A : Nat → Prop} {H0 : Heap}
variable {w0 ws : va_W} {tys : xT} {ad : Nat → Nat} {cB : Nat → ClassId} {rf : Nat → Int64} {tf bf fa fb fc fr : Nat → Int32} {ng : Int32}
theorem md_lld (hx : p.tables.exec = Jvm.exec) (hb : c.code = cc) (hK : va_K D vwCl tys s) (hP : va_P D vwCl ws H) (M : md w0 ws tys ad cB rf tf bf fa fb fc fr ng) {r : Int32} (h : ¬ r < 0 ∧ r < 8) (hdg : decode cc pc = .ok (.laload, 1))
    (kk : W p l e R s m args below meth c H locs cells slots Q (F0 m (pc + 1) ls (.long (rf r.toNatClampNeg) :: rest))) : W p l e R s m args below meth c H locs cells slots Q (F0 m pc ls (.int r :: .ref (ad 1) :: rest)) :=
  va_lald hx hb hK hP 11 2 (md_a1 M) (md_t0 M) (in8 h) hdg kk
theorem md_lst (hx : p.tables.exec = Jvm.exec) (hb : c.code = cc) (hK : va_K D vwCl tys s) (hP : va_P D vwCl ws H) (hD : va_D A ws) (hS : va_S A H0 H locs) (M : md w0 ws tys ad cB rf tf bf fa fb fc fr ng) {r : Int32} {v : Int64} (h : ¬ r < 0 ∧ r < 8) (hdg : decode cc pc = .ok (.lastore, 1))
    (kk : ∀ (ws1 : va_W) (H1 : Heap) (locs1 : List Loc), md w0 ws1 tys ad cB (vp_updL rf r.toNatClampNeg v) tf bf fa fb fc fr ng → va_P D vwCl ws1 H1 → va_D A ws1 → va_S A H0 H1 locs1 → W p l e R s m args below meth c H1 locs1 cells slots Q (F0 m (pc + 1) ls rest)) : W p l e R s m args below meth c H locs cells slots Q (F0 m pc ls (.long v :: .int r :: .ref (ad 1) :: rest)) :=
  va_last hx hb hK hP hD hS 11 2 (md_a1 M) (md_t0 M) (in8 h) hdg (fun H1 locs1 hP1 hD1 hS1 => kk _ H1 locs1 (md_srf M rfl) hP1 hD1 hS1)
theorem md_zld (hx : p.tables.exec = Jvm.exec) (hb : c.code = cc) (hK : va_K D vwCl tys s) (hP : va_P D vwCl ws H) (M : md w0 ws tys ad cB rf tf bf fa fb fc fr ng) {t : Int32} (h : ¬ t < 0 ∧ t < 4) (hdg : decode cc pc = .ok (.baload, 1))
    (kk : W p l e R s m args below meth c H locs cells slots Q (F0 m (pc + 1) ls (.int (bf t.toNatClampNeg) :: rest))) : W p l e R s m args below meth c H locs cells slots Q (F0 m pc ls (.int t :: .ref (ad 3) :: rest)) :=
  va_zald hx hb hK hP 13 4 (md_a3 M) (md_t2 M) (in4 h) hdg kk
theorem md_zst (hx : p.tables.exec = Jvm.exec) (hb : c.code = cc) (hK : va_K D vwCl tys s) (hP : va_P D vwCl ws H) (hD : va_D A ws) (hS : va_S A H0 H locs) (M : md w0 ws tys ad cB rf tf bf fa fb fc fr ng) {t v : Int32} (h : ¬ t < 0 ∧ t < 4) (hv : v = 0 ∨ v = 1) (hdg : decode cc pc = .ok (.bastore, 1))
    (kk : ∀ (ws1 : va_W) (H1 : Heap) (locs1 : List Loc), md w0 ws1 tys ad cB rf tf (upd bf t.toNatClampNeg v) fa fb fc fr ng → va_P D vwCl ws1 H1 → va_D A ws1 → va_S A H0 H1 locs1 → W p l e R s m args below meth c H1 locs1 cells slots Q (F0 m (pc + 1) ls rest)) : W p l e R s m args below meth c H locs cells slots Q (F0 m pc ls (.int v :: .int t :: .ref (ad 3) :: rest)) := by
  have e : vp_nar .boolean v = v := by rcases hv with rfl | rfl <;> decide
  refine va_zast hx hb hK hP hD hS 13 4 (md_a3 M) (md_t2 M) (in4 h) hdg (fun H1 locs1 hP1 hD1 hS1 => ?_)
  rw [e] at hP1 hD1
  exact kk _ H1 locs1 (md_sbf M rfl) hP1 hD1 hS1
end MR
theorem lim_d {f : Nat → Int32} (h : dg f 9223372036854775807) : dg (upd f 0 8) 9223372036854775808 := by
  intro j hj
  rcases Nat.eq_zero_or_pos j with q | q
  · subst q
    rw [up_s]; decide
  · rw [up_n (by omega), h j hj]
    obtain ⟨i, rfl⟩ : ∃ i, j = i + 1 := ⟨j - 1, by omega⟩
    rw [Nat.pow_succ, Nat.mul_comm (10 ^ i), ← Nat.div_div_eq_div_mul, ← Nat.div_div_eq_div_mul]
theorem lim_m : (9223372036854775807 : Int64).toInt.natAbs = 9223372036854775807 := by decide
/-- the value loop of store: one digit more -/
theorem st_step {v : Int64} {x u : Nat} {f : Nat → Int32} (hx : x ≤ 9223372036854775808) (hv : v.toInt = -((x / 10 ^ (u + 1) : Nat) : Int)) (hf : f u = nI (x / 10 ^ u % 10)) : (10 * v - (f u).toInt64).toInt = -((x / 10 ^ u : Nat) : Int) := by
  have a : x / 10 ^ (u + 1) = x / 10 ^ u / 10 := by rw [Nat.pow_succ, Nat.div_div_eq_div_mul]
  have b : x / 10 ^ u ≤ x := Nat.div_le_self _ _
  have c := d9 x u
  rw [a] at hv
  rw [hf, nI_l (by omega)]
  generalize x / 10 ^ u = q at *
  have d := un_mul 10 v
  have e : (10 : Int64).toInt = 10 := by decide
  have g := un_sub (10 * v) (lN (q % 10))
  have h := un_c (10 * v)
  have i : (lN (q % 10)).toInt = ((q % 10 : Nat) : Int) := pk_lT (by omega)
  rw [e, hv] at d
  rw [i] at g
  exact un_eq (by omega) (by omega) (by omega)
theorem st_fin {v : Int64} {x : Nat} (hv : v.toInt = -((x / 10 ^ 0 : Nat) : Int)) (hx : x ≤ 9223372036854775808) : v = zl (-(x : Int)) ∧ -v = zl (x : Int) := by
  rw [Nat.pow_zero, Nat.div_one] at hv
  have a := un_c v
  have b := un_neg v
  have c := zl_un (-(x : Int))
  have d := zl_un (x : Int)
  rw [hv] at a b
  constructor <;> apply uN_inj <;> omega
theorem sv_0 {n : Int32} {x : Nat} (h : n = 0) : sv n x = (x : Int) := by subst h; unfold sv; rw [if_neg (by decide)]
theorem sv_1 {n : Int32} {x : Nat} (h : n = 1) : sv n x = -(x : Int) := by subst h; unfold sv; rw [if_pos rfl]
theorem n01 {n : Int32} (h : n = 0 ∨ n = 1) (c : ¬ n = 0) : n = 1 := h.resolve_left c
theorem n10 {n : Int32} (h : n = 0 ∨ n = 1) (c : ¬ n = 1) : n = 0 := h.resolve_right c
theorem ord_le (a b : Int) : sp_ord a b ≤ 0 ↔ a ≤ b := by
  unfold sp_ord
  split
  · exact ⟨fun _ => by omega, fun _ => by decide⟩
  · split
    · exact ⟨fun _ => by omega, fun _ => by decide⟩
    · exact ⟨fun q => absurd q (by decide), fun q => by omega⟩
/-- a long by its sign and its size -/
theorem sv_l (v : Int64) (n : Int32) (h : n = if v.toInt < 0 then 1 else 0) : sv n v.toInt.natAbs = v.toInt := by
  by_cases q : v.toInt < 0
  · rw [if_pos q] at h; rw [sv_1 h]; omega
  · rw [if_neg q] at h; rw [sv_0 h]; omega
-- the reference: store (laid by wip/whole/gen_mk.py)
set_option maxHeartbeats 4000000 in
set_option maxRecDepth 100000 in
theorem cM_store (l : Launch) (D : va_G) {tys : xT} {ws : va_W} {sz : Nat} {w0 : va_W} {ad : Nat → Nat} {cB : Nat → ClassId} {rf : Nat → Int64} {tf bf fa fb fc fr : Nat → Int32} {ng : Int32} (M : md w0 ws tys ad cB rf tf bf fa fb fc fr ng) (tv : Nat → Int) {x : Nat} (hda : dg fa x) (hxl : x < 10 ^ 80) (hng : ng = 0 ∨ ng = 1) {r : Int32} (h : okR r) : xM l yX2_store (.code yX2_store cX2_store 5 (some .int) :: mdT) ({ frames := 1, cells := 0, slots := 0, locals := 26 }) D tys ws sz [.ref (ad 0), .int r] (xQi D tys (fun a w => (∃ f2, md w0 w tys ad cB (sp_kR (rf, tv) r (sv ng x)).2.1 tf bf fa fb f2 fr ng) ∧ a = (sp_kR (rf, tv) r (sv ng x)).1)) 0 0 := by
  refine xb_m (cc := cX2_store) (maxL := 5) (ret := (some .int)) (by decide) rfl (Nat.le_of_ble_eq_true rfl) ?_
  intro p e s m below meth c A ls hx hb hr hml hown hts hlocks hnm hA hP hK hD hS hl
  have hl : lv_has ls 5 [(0, .ref (ad 0)), (1, .int r)] := hl
  have hown : s.vm.findClass RX2 = some m.cls := hown
  have loop : ∀ (t : Nat) (x2 : Int64) (x4 : Int32) (f2 : Nat → Int32) (ws1 : va_W) (H : Heap) (locs : List Loc) (ls : Array Slot), t ≤ 20 → x ≤ 9223372036854775808 → (ng = 0 → x ≤ 9223372036854775807) → x4 = nI t + (-1) → x2.toInt = -((x / 10 ^ t : Nat) : Int) → md w0 ws1 tys ad cB rf tf bf fa fb f2 fr ng → va_P D vwCl ws1 H → va_D A ws1 → va_S A s.heap H locs → lv_has ls 5 [(0, .ref (ad 0)), (1, .int r), (2, .long x2), (4, .int x4)] → W p l e ({ frames := 1, cells := 0, slots := 0, locals := 26 }) s m [.ref (ad 0), .int r].toArray below meth c H locs 0 0 (MQ below (xQi D tys (fun a w => (∃ f2, md w0 w tys ad cB (sp_kR (rf, tv) r (sv ng x)).2.1 tf bf fa fb f2 fr ng) ∧ a = (sp_kR (rf, tv) r (sv ng x)).1) A) [.ref (ad 0), .int r].toArray s 0 0 A) (F0 m 58 ls []) := by
    intro t
    induction t with
    | zero =>
      intro x2 x4 f2 ws1 H locs ls h1 hx8 hx7 ex4 ex2 M hP hD hS hl
      obtain ⟨z1, z2⟩ := st_fin ex2 hx8
      refine lv_iload hx hb dX2_store_58 (lv_at hl 3 rfl) ?_
      refine lv_if_lt (tgt := 84) hx hb dX2_store_60 (by decide) (fun c60 => ?_) (fun c60 => ?_)
      · refine lv_aload_n hx hb dX2_store_84 rfl (lv_at hl 0 rfl) ?_
        refine va_get (D := D) (ci := ciM) (v := .ref (ad 1)) (C := RX2) (T := TX2) (N := 8) hx hb hts inM hown hK hP 10 (md_a0 M) rfl 0 (by decide) (hts _ (inT mw_3)) (fun _ h9 => h9) rfl dX2_store_85 ?_
        refine lv_iload_n hx hb dX2_store_88 rfl (lv_at hl 1 rfl) ?_
        refine lv_aload_n hx hb dX2_store_89 rfl (lv_at hl 0 rfl) ?_
        refine va_get (D := D) (ci := ciM) (v := .int ng) (C := RX2) (T := TX2) (N := 8) hx hb hts inM hown hK hP 10 (md_a0 M) rfl 7 (by decide) (hts _ (inT mw_10)) (fun _ h9 => h9) rfl dX2_store_90 ?_
        refine lv_if_eq (tgt := 100) hx hb dX2_store_93 (by decide) (fun c93 => ?_) (fun c93 => ?_)
        · refine lv_lload_n hx hb dX2_store_100 rfl (lv_at hl 2 rfl) ?_
          refine lv_lneg hx hb dX2_store_101 ?_
          refine md_lst hx hb hK hP hD hS M h dX2_store_102 (fun ws2 H locs M hP hD hS => ?_)
          refine lv_iconst (v := 0) hx hb dX2_store_103 (by decide) ?_
          exact xb_ir hx hb hr hlocks hP hK hD hS dX2_store_104 (by rw [sv_0 c93, sp_kR, if_neg (by omega), if_neg (by have := hx7 c93; omega)]; rw [z2] at M; exact ⟨⟨f2, M⟩, rfl⟩)
        · refine lv_lload_n hx hb dX2_store_96 rfl (lv_at hl 2 rfl) ?_
          refine lv_goto (tgt := 102) hx hb dX2_store_97 (by decide) ?_
          refine md_lst hx hb hK hP hD hS M h dX2_store_102 (fun ws2 H locs M hP hD hS => ?_)
          refine lv_iconst (v := 0) hx hb dX2_store_103 (by decide) ?_
          exact xb_ir hx hb hr hlocks hP hK hD hS dX2_store_104 (by rw [sv_1 (n01 hng c93), sp_kR, if_neg (by omega), if_neg (by omega)]; rw [z1] at M; exact ⟨⟨f2, M⟩, rfl⟩)
      · exact absurd (by rw [ex4]; decide) c60
    | succ u ih =>
      intro x2 x4 f2 ws1 H locs ls h1 hx8 hx7 ex4 ex2 M hP hD hS hl
      rw [pk_m1] at ex4
      refine lv_iload hx hb dX2_store_58 (lv_at hl 3 rfl) ?_
      refine lv_if_lt (tgt := 84) hx hb dX2_store_60 (by decide) (fun c60 => ?_) (fun c60 => ?_)
      · exact absurd c60 (by rw [ex4]; exact nI_pos (by omega))
      · refine lv_ldc2 (v := 10) hx hb hown (hts _ (inT mw_18)) dX2_store_63 ?_
        refine lv_lload_n hx hb dX2_store_66 rfl (lv_at hl 2 rfl) ?_
        refine lv_lmul hx hb dX2_store_67 ?_
        refine lv_aload_n hx hb dX2_store_68 rfl (lv_at hl 0 rfl) ?_
        refine va_get (D := D) (ci := ciM) (v := .ref (ad 4)) (C := RX2) (T := TX2) (N := 8) hx hb hts inM hown hK hP 10 (md_a0 M) rfl 3 (by decide) (hts _ (inT mw_7)) (fun _ h9 => h9) rfl dX2_store_69 ?_
        refine lv_iload hx hb dX2_store_72 (lv_at hl 3 rfl) ?_
        refine ia_ld hx hb hK hP (md_a4 M) (md_t3 M) ex4 (show u < 80 by omega) (by decide) dX2_store_74 ?_
        refine lv_i2l hx hb dX2_store_75 rfl ?_
        refine lv_lsub hx hb dX2_store_76 ?_
        refine lv_lstore_n (lv' := [(2, .long ((10 * x2) - ((fa u).toInt64))), (0, .ref (ad 0)), (1, .int r), (4, .int x4)]) hx hb dX2_store_77 rfl hl (by decide) rfl (fun ls hl => ?_)
        refine lv_iinc (v := x4 + (-1)) (lv' := [(4, .int (x4 + (-1))), (2, .long ((10 * x2) - ((fa u).toInt64))), (0, .ref (ad 0)), (1, .int r)]) hx hb dX2_store_78 hl (k := 3) rfl (by rfl) (by decide) rfl (fun ls hl => ?_)
        refine lv_goto (tgt := 58) hx hb dX2_store_81 (by decide) ?_
        exact ih ((10 * x2) - ((fa u).toInt64)) (x4 + (-1)) f2 ws1 H locs ls (by omega) hx8 hx7 (by rw [ex4]) (st_step hx8 ex2 (hda u (by omega))) M hP hD hS (lv_sub hl [2, 3, 1, 0] rfl)
  refine lv_ldc2 (v := 9223372036854775807) hx hb hown (hts _ (inT mw_28)) dX2_store_0 ?_
  refine lv_aload_n hx hb dX2_store_3 rfl (lv_at hl 0 rfl) ?_
  refine va_get (D := D) (ci := ciM) (v := .ref (ad 6)) (C := RX2) (T := TX2) (N := 8) hx hb hts inM hown hK hP 10 (md_a0 M) rfl 5 (by decide) (hts _ (inT mw_11)) (fun _ h9 => h9) rfl dX2_store_4 ?_
  refine xb_rv (va_runS (As := [.long 9223372036854775807, .ref (ad 6)]) (rest := []) ⟨hx, hb, hml, hown, hts⟩ (cM_write l D (md_a6 M) (md_t5 M) 9223372036854775807) (va_cwS 2 hts (gM_S 63 yX2_write (.code yX2_write cX2_write 7 none) (by decide +kernel) mw_56) rfl rfl rfl (by decide +kernel) ⟨Nat.le_of_ble_eq_true rfl, Nat.le_of_ble_eq_true rfl⟩) (xb_ps rfl hP hK hD) rfl rfl hl.1 rfl (lv_room (Nat.le_of_ble_eq_true rfl)) dX2_store_7 ⟨Nat.le_of_ble_eq_true rfl, Nat.le_of_ble_eq_true rfl⟩) hD hS hA (fun ws1 H locs hws1 hP hD hS => ?_)
  obtain ⟨fc_7, hws1, hdfc_7⟩ := hws1
  have M := md_sfc M hws1
  have hdfc_7 : dg fc_7 ((9223372036854775807 : Int64).toInt.natAbs) := hdfc_7
  refine lv_aload_n hx hb dX2_store_10 rfl (lv_at hl 0 rfl) ?_
  refine va_get (D := D) (ci := ciM) (v := .int ng) (C := RX2) (T := TX2) (N := 8) hx hb hts inM hown hK hP 10 (md_a0 M) rfl 7 (by decide) (hts _ (inT mw_10)) (fun _ h9 => h9) rfl dX2_store_11 ?_
  refine lv_if_eq (tgt := 25) hx hb dX2_store_14 (by decide) (fun c14 => ?_) (fun c14 => ?_)
  · have hdl : dg fc_7 9223372036854775807 := by rw [lim_m] at hdfc_7; exact hdfc_7
    refine lv_aload_n hx hb dX2_store_25 rfl (lv_at hl 0 rfl) ?_
    refine va_get (D := D) (ci := ciM) (v := .ref (ad 4)) (C := RX2) (T := TX2) (N := 8) hx hb hts inM hown hK hP 10 (md_a0 M) rfl 3 (by decide) (hts _ (inT mw_7)) (fun _ h9 => h9) rfl dX2_store_26 ?_
    refine lv_aload_n hx hb dX2_store_29 rfl (lv_at hl 0 rfl) ?_
    refine va_get (D := D) (ci := ciM) (v := .ref (ad 6)) (C := RX2) (T := TX2) (N := 8) hx hb hts inM hown hK hP 10 (md_a0 M) rfl 5 (by decide) (hts _ (inT mw_11)) (fun _ h9 => h9) rfl dX2_store_30 ?_
    refine xb_ri (va_runS (As := [.ref (ad 4), .ref (ad 6)]) (rest := []) ⟨hx, hb, hml, hown, hts⟩ (cM_cmps l D (md_a4 M) (md_t3 M) (md_a6 M) (md_t5 M) hda hdl hxl (by decide)) (va_cwS 2 hts (gM_S 47 yX2_compareSizes (.code yX2_compareSizes cX2_compareSizes 4 (some .int)) (by decide +kernel) mw_59) rfl rfl rfl (by decide +kernel) ⟨Nat.le_of_ble_eq_true rfl, Nat.le_of_ble_eq_true rfl⟩) (xb_ps rfl hP hK hD) rfl rfl hl.1 rfl (lv_room (Nat.le_of_ble_eq_true rfl)) dX2_store_33 ⟨Nat.le_of_ble_eq_true rfl, Nat.le_of_ble_eq_true rfl⟩) hD hS hA (fun r33 ws2 H locs hws2 hP hD hS => ?_)
    obtain ⟨hr33, rfl⟩ := hws2
    refine lv_if_le (tgt := 52) hx hb dX2_store_36 (by decide) (fun c36 => ?_) (fun c36 => ?_)
    · rw [hr33, ord_le] at c36
      refine lv_lconst (v := 0) hx hb dX2_store_52 (by decide) ?_
      refine lv_lstore_n (lv' := [(2, .long 0), (0, .ref (ad 0)), (1, .int r)]) hx hb dX2_store_53 rfl hl (by decide) rfl (fun ls hl => ?_)
      refine lv_bipush (v := 19) hx hb dX2_store_54 (by decide) ?_
      refine lv_istore (lv' := [(4, .int 19), (2, .long 0), (0, .ref (ad 0)), (1, .int r)]) hx hb dX2_store_56 hl (by decide) rfl (fun ls hl => ?_)
      exact loop 20 0 19 _ ws1 H locs ls (by omega) (by omega) (fun _ => by omega) rfl (by rw [Nat.div_eq_of_lt (by omega)]; rfl) M hP hD hS (lv_sub hl [2, 3, 1, 0] rfl)
    · rw [hr33, ord_le] at c36
      refine lv_aload_n hx hb dX2_store_39 rfl (lv_at hl 0 rfl) ?_
      refine va_get (D := D) (ci := ciM) (v := .int ng) (C := RX2) (T := TX2) (N := 8) hx hb hts inM hown hK hP 10 (md_a0 M) rfl 7 (by decide) (hts _ (inT mw_10)) (fun _ h9 => h9) rfl dX2_store_40 ?_
      refine lv_if_eq (tgt := 50) hx hb dX2_store_43 (by decide) (fun c43 => ?_) (fun c43 => ?_)
      · refine lv_iconst (v := 1) hx hb dX2_store_50 (by decide) ?_
        exact xb_ir hx hb hr hlocks hP hK hD hS dX2_store_51 (by rw [sv_0 c14, sp_kR, if_neg (by omega), if_pos (by omega)]; exact ⟨⟨_, M⟩, rfl⟩)
      · exact absurd c14 c43
  · refine lv_aload_n hx hb dX2_store_17 rfl (lv_at hl 0 rfl) ?_
    refine va_get (D := D) (ci := ciM) (v := .ref (ad 6)) (C := RX2) (T := TX2) (N := 8) hx hb hts inM hown hK hP 10 (md_a0 M) rfl 5 (by decide) (hts _ (inT mw_11)) (fun _ h9 => h9) rfl dX2_store_18 ?_
    refine lv_iconst (v := 0) hx hb dX2_store_21 (by decide) ?_
    refine lv_bipush (v := 8) hx hb dX2_store_22 (by decide) ?_
    refine ia_st (x := 8) hx hb hK hP hD hS (md_a6 M) (md_t5 M) nI_0.symm (by decide) (by decide) dX2_store_24 (fun ws2 H locs hws2 hP hD hS => ?_)
    have M := md_sfc M hws2
    have hdl : dg (upd fc_7 0 8) 9223372036854775808 := lim_d (by rw [lim_m] at hdfc_7; exact hdfc_7)
    refine lv_aload_n hx hb dX2_store_25 rfl (lv_at hl 0 rfl) ?_
    refine va_get (D := D) (ci := ciM) (v := .ref (ad 4)) (C := RX2) (T := TX2) (N := 8) hx hb hts inM hown hK hP 10 (md_a0 M) rfl 3 (by decide) (hts _ (inT mw_7)) (fun _ h9 => h9) rfl dX2_store_26 ?_
    refine lv_aload_n hx hb dX2_store_29 rfl (lv_at hl 0 rfl) ?_
    refine va_get (D := D) (ci := ciM) (v := .ref (ad 6)) (C := RX2) (T := TX2) (N := 8) hx hb hts inM hown hK hP 10 (md_a0 M) rfl 5 (by decide) (hts _ (inT mw_11)) (fun _ h9 => h9) rfl dX2_store_30 ?_
    refine xb_ri (va_runS (As := [.ref (ad 4), .ref (ad 6)]) (rest := []) ⟨hx, hb, hml, hown, hts⟩ (cM_cmps l D (md_a4 M) (md_t3 M) (md_a6 M) (md_t5 M) hda hdl hxl (by decide)) (va_cwS 2 hts (gM_S 47 yX2_compareSizes (.code yX2_compareSizes cX2_compareSizes 4 (some .int)) (by decide +kernel) mw_59) rfl rfl rfl (by decide +kernel) ⟨Nat.le_of_ble_eq_true rfl, Nat.le_of_ble_eq_true rfl⟩) (xb_ps rfl hP hK hD) rfl rfl hl.1 rfl (lv_room (Nat.le_of_ble_eq_true rfl)) dX2_store_33 ⟨Nat.le_of_ble_eq_true rfl, Nat.le_of_ble_eq_true rfl⟩) hD hS hA (fun r33 ws3 H locs hws3 hP hD hS => ?_)
    obtain ⟨hr33, rfl⟩ := hws3
    refine lv_if_le (tgt := 52) hx hb dX2_store_36 (by decide) (fun c36 => ?_) (fun c36 => ?_)
    · rw [hr33, ord_le] at c36
      refine lv_lconst (v := 0) hx hb dX2_store_52 (by decide) ?_
      refine lv_lstore_n (lv' := [(2, .long 0), (0, .ref (ad 0)), (1, .int r)]) hx hb dX2_store_53 rfl hl (by decide) rfl (fun ls hl => ?_)
      refine lv_bipush (v := 19) hx hb dX2_store_54 (by decide) ?_
      refine lv_istore (lv' := [(4, .int 19), (2, .long 0), (0, .ref (ad 0)), (1, .int r)]) hx hb dX2_store_56 hl (by decide) rfl (fun ls hl => ?_)
      exact loop 20 0 19 _ ws2 H locs ls (by omega) (by omega) (fun q => absurd q c14) rfl (by rw [Nat.div_eq_of_lt (by omega)]; rfl) M hP hD hS (lv_sub hl [2, 3, 1, 0] rfl)
    · rw [hr33, ord_le] at c36
      refine lv_aload_n hx hb dX2_store_39 rfl (lv_at hl 0 rfl) ?_
      refine va_get (D := D) (ci := ciM) (v := .int ng) (C := RX2) (T := TX2) (N := 8) hx hb hts inM hown hK hP 10 (md_a0 M) rfl 7 (by decide) (hts _ (inT mw_10)) (fun _ h9 => h9) rfl dX2_store_40 ?_
      refine lv_if_eq (tgt := 50) hx hb dX2_store_43 (by decide) (fun c43 => ?_) (fun c43 => ?_)
      · exact absurd c43 c14
      · refine lv_iconst (v := 2) hx hb dX2_store_46 (by decide) ?_
        refine lv_goto (tgt := 51) hx hb dX2_store_47 (by decide) ?_
        exact xb_ir hx hb hr hlocks hP hK hD hS dX2_store_51 (by rw [sv_1 (n01 hng c14), sp_kR, if_pos (by omega)]; exact ⟨⟨_, M⟩, rfl⟩)
