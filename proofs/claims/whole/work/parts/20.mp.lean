/-! the reference: the rest of its tallies' operations -/
theorem cl_up {tf bf tf1 : Nat → Int32} {tv : Nat → Int} (T : mt tf bf tv) {t : Int32} (h : ¬ t < 0 ∧ t < 4) (h1 : ∀ k, k < 40 → tf1 (40 * t.toNatClampNeg + k) = 0) (h2 : ∀ q, (q < 40 * t.toNatClampNeg ∨ 40 * t.toNatClampNeg + 40 ≤ q) → tf1 q = tf q) : mt tf1 (upd bf t.toNatClampNeg 0) (va_up tv t.toNatClampNeg 0) := by
  intro u hu
  by_cases e : u = t.toNatClampNeg
  · subst e
    rw [show va_up tv t.toNatClampNeg 0 t.toNatClampNeg = 0 from if_pos rfl, up_s]
    refine ⟨fun k hk => ?_, by rw [if_neg (by decide)], by decide⟩
    rw [h1 k (by omega), show (0 : Int).natAbs = 0 from rfl, Nat.zero_div]
    rfl
  · rw [show va_up tv t.toNatClampNeg 0 u = tv u from if_neg e, up_n e]
    refine ⟨fun k hk => ?_, (T u hu).2⟩
    rw [h2 _ (by omega)]
    exact (T u hu).1 k hk
theorem cJ1 {tf : Nat → Int32} {B i : Nat} (h : ∀ k, k < i → tf (B + k) = 0) : ∀ k, k < i + 1 → upd tf (B + i) 0 (B + k) = 0 := fun k hk => by
  by_cases e : k = i
  · subst e; rw [up_s]
  · rw [up_n (by omega)]; exact h k (by omega)
theorem sL_0 (V : Nat) : sLen (V % 10 ^ 0) 1 := by rw [Nat.pow_zero, Nat.mod_one]; exact ⟨by omega, by decide, Or.inl rfl⟩
theorem sL_p {V i : Nat} (h : ¬ V / 10 ^ i % 10 = 0) : sLen (V % 10 ^ (i + 1)) (i + 1) := by
  refine ⟨by omega, Nat.mod_lt _ (p10 _), Or.inr ?_⟩
  have b : 10 ^ i * 1 ≤ 10 ^ i * (V / 10 ^ i % 10) := Nat.mul_le_mul_left _ (by omega)
  rw [Nat.add_sub_cancel, pd_mod]
  omega
theorem sL_z {V i L : Nat} (h : V / 10 ^ i % 10 = 0) (k : sLen (V % 10 ^ i) L) : sLen (V % 10 ^ (i + 1)) L := by
  rw [pd_mod, h, Nat.mul_zero, Nat.add_zero]; exact k
theorem sp_step {v : Int64} {x u : Nat} {f : Nat → Int32} (hx : x ≤ 1000000000000000000) (hv : v.toInt = ((x / 10 ^ (u + 1) : Nat) : Int)) (hf : f u = nI (x / 10 ^ u % 10)) : (10 * v + (f u).toInt64).toInt = ((x / 10 ^ u : Nat) : Int) := by
  have a : x / 10 ^ (u + 1) = x / 10 ^ u / 10 := by rw [Nat.pow_succ, Nat.div_div_eq_div_mul]
  have b : x / 10 ^ u ≤ x := Nat.div_le_self _ _
  have c := d9 x u
  rw [a] at hv
  rw [hf, nI_l (by omega)]
  generalize x / 10 ^ u = q at *
  have d := un_mul 10 v
  have e : (10 : Int64).toInt = 10 := by decide
  have g := un_add (10 * v) (lN (q % 10))
  have h := un_c (10 * v)
  have i : (lN (q % 10)).toInt = ((q % 10 : Nat) : Int) := pk_lT (by omega)
  rw [e, hv] at d
  rw [i] at g
  exact un_eq (by omega) (by omega) (by omega)
theorem sp_fin {v : Int64} {x : Nat} (hv : v.toInt = ((x / 10 ^ 0 : Nat) : Int)) : v = zl (x : Int) ∧ -v = zl (-(x : Int)) := by
  rw [Nat.pow_zero, Nat.div_one] at hv
  have a := un_c v
  have b := un_neg v
  have c := zl_un (-(x : Int))
  have d := zl_un (x : Int)
  rw [hv] at a b
  constructor <;> apply uN_inj <;> omega
theorem ab_td (z d : Int) : (z.natAbs / d.natAbs : Nat) = (z.tdiv d).natAbs := (Int.natAbs_tdiv z d).symm
theorem sv_td {n : Int32} {z d : Int} (hn : n = if z < 0 then 1 else 0) (hd : 0 < d) : sv n (z.natAbs / d.natAbs) = z.tdiv d ∧ sv n (z.natAbs % d.natAbs) = z.tmod d := by
  have ed : d = ((d.natAbs : Nat) : Int) := by omega
  by_cases q : z < 0
  · rw [if_pos q] at hn
    rw [sv_1 hn, sv_1 hn]
    have ez : z = -((z.natAbs : Nat) : Int) := by omega
    have r1 : (-((z.natAbs : Nat) : Int)).tdiv ((d.natAbs : Nat) : Int) = -((z.natAbs / d.natAbs : Nat) : Int) := by rw [Int.neg_tdiv, tdn]
    have r2 : (-((z.natAbs : Nat) : Int)).tmod ((d.natAbs : Nat) : Int) = -((z.natAbs % d.natAbs : Nat) : Int) := by rw [Int.neg_tmod, Int.tmod_eq_emod_of_nonneg (by omega)]; rfl
    rw [← ez, ← ed] at r1 r2
    exact ⟨r1.symm, r2.symm⟩
  · rw [if_neg q] at hn
    rw [sv_0 hn, sv_0 hn]
    have ez : z = ((z.natAbs : Nat) : Int) := by omega
    have r1 := tdn z.natAbs d.natAbs
    have r2 : ((z.natAbs : Nat) : Int).tmod ((d.natAbs : Nat) : Int) = ((z.natAbs % d.natAbs : Nat) : Int) := by rw [Int.tmod_eq_emod_of_nonneg (by omega)]; rfl
    rw [← ez, ← ed] at r1 r2
    exact ⟨r1.symm, r2.symm⟩
theorem split_eq {rf : Nat → Int64} {tv : Nat → Int} {t r : Int32} {d : Int64} {W : Int} {x : Int64} (h : okT t ∧ okR r ∧ ¬ d < 0 ∧ ¬ 1000000000000000000 < d) (h0 : ¬ d = 0) (hl : (tv t.toNatClampNeg).natAbs < 10 ^ 36) (eW : W = (tv t.toNatClampNeg).tdiv d.toInt) (ex : x = zl ((tv t.toNatClampNeg).tmod d.toInt)) : sp_split (rf, tv) t d r = sp_kT (vp_updL rf r.toNatClampNeg x, tv) t W := by
  have p := p36
  have q := Int.natAbs_tdiv_le_natAbs (tv t.toNatClampNeg) d.toInt
  rw [sp_kT, if_neg (by omega), if_neg (by omega), eW, ex, sp_split, if_pos h, if_neg h0]
theorem d_pos {d : Int64} (h : ¬ d < 0) (h0 : ¬ d = 0) : 0 < d.toInt := by
  rw [Int64.lt_iff_toInt_lt] at h
  have e : (0 : Int64).toInt = 0 := by decide
  have := l_ne h0
  omega
theorem d_18 {d : Int64} (h : d ≤ 1000000000000000000) (h1 : ¬ d < 0) : d.toInt.natAbs ≤ 1000000000000000000 := by
  rw [Int64.le_iff_toInt_le] at h
  rw [Int64.lt_iff_toInt_lt] at h1
  have e : (0 : Int64).toInt = 0 := by decide
  have f : (1000000000000000000 : Int64).toInt = 1000000000000000000 := by decide
  omega
-- the reference: clear, digits, digit, split (laid by wip/whole/gen_mp.py)
set_option maxHeartbeats 4000000 in
set_option maxRecDepth 100000 in
theorem cM_clear (l : Launch) (D : va_G) {tys : xT} {ws : va_W} {sz : Nat} {w0 : va_W} {ad : Nat → Nat} {cB : Nat → ClassId} {rf : Nat → Int64} {tf bf fa fb fc fr : Nat → Int32} {ng : Int32} (M : md w0 ws tys ad cB rf tf bf fa fb fc fr ng) {tv : Nat → Int} (T : mt tf bf tv) (t : Int32) : xM l yX2_clear (.code yX2_clear cX2_clear 3 (some .boolean) :: mdT) ({ frames := 1, cells := 0, slots := 0, locals := 20 }) D tys ws sz [.ref (ad 0), .int t] (xQi D tys (fun a w => mdS w0 w tys ad cB (sp_clear (rf, tv) t).2 ∧ a = (sp_clear (rf, tv) t).1)) 0 0 := by
  refine xb_m (cc := cX2_clear) (maxL := 3) (ret := (some .boolean)) (by decide) rfl (Nat.le_of_ble_eq_true rfl) ?_
  intro p e s m below meth c A ls hx hb hr hml hown hts hlocks hnm hA hP hK hD hS hl
  have hl : lv_has ls 3 [(0, .ref (ad 0)), (1, .int t)] := hl
  have hown : s.vm.findClass RX2 = some m.cls := hown
  by_cases hT : okT t
  · have loop : ∀ (n i : Nat) (xi : Int32) (ti : Nat → Int32) (ws1 : va_W) (H : Heap) (locs : List Loc) (ls : Array Slot), i ≤ 40 → 40 < i + n → xi = nI i → md w0 ws1 tys ad cB rf ti bf fa fb fc fr ng → (∀ k, k < i → ti (40 * t.toNatClampNeg + k) = 0) → (∀ q, (q < 40 * t.toNatClampNeg ∨ 40 * t.toNatClampNeg + i ≤ q) → ti q = tf q) → va_P D vwCl ws1 H → va_D A ws1 → va_S A s.heap H locs → lv_has ls 3 [(0, .ref (ad 0)), (1, .int t), (2, .int xi)] → W p l e ({ frames := 1, cells := 0, slots := 0, locals := 20 }) s m [.ref (ad 0), .int t].toArray below meth c H locs 0 0 (MQ below (xQi D tys (fun a w => mdS w0 w tys ad cB (sp_clear (rf, tv) t).2 ∧ a = (sp_clear (rf, tv) t).1) A) [.ref (ad 0), .int t].toArray s 0 0 A) (F0 m 2 ls []) := by
      intro n
      induction n with
      | zero =>
        intro i xi ti ws1 H locs ls h1 h2
        omega
      | succ n ih =>
        intro i xi ti ws1 H locs ls h1 h2 exi M hT1 hT2 hP hD hS hl
        refine lv_iload_n hx hb dX2_clear_2 rfl (lv_at hl 2 rfl) ?_
        refine lv_bipush (v := 40) hx hb dX2_clear_3 (by decide) ?_
        refine lv_icmp_ge (tgt := 33) hx hb dX2_clear_5 (by decide) (fun c5 => ?_) (fun c5 => ?_)
        · have q40 := nge (M := 40) rfl exi (by decide) c5 (by omega)
          have e40 : i = 40 := by omega
          subst e40
          refine lv_iload_n hx hb dX2_clear_33 rfl (lv_at hl 1 rfl) ?_
          refine xb_ri (va_runS (As := [.int t]) (rest := []) ⟨hx, hb, hml, hown, hts⟩ (cM_isT l D t) (va_cwS 1 hts (gM_S 89 yX2_isTally (.code yX2_isTally cX2_isTally 1 (some .boolean)) (by decide +kernel) mw_71) rfl rfl rfl (by decide +kernel) ⟨Nat.le_of_ble_eq_true rfl, Nat.le_of_ble_eq_true rfl⟩) (xb_ps rfl hP hK hD) rfl rfl hl.1 rfl (lv_room (Nat.le_of_ble_eq_true rfl)) dX2_clear_34 ⟨Nat.le_of_ble_eq_true rfl, Nat.le_of_ble_eq_true rfl⟩) hD hS hA (fun r34 ws2 H locs hws2 hP hD hS => ?_)
          obtain ⟨hr34, rfl⟩ := hws2
          refine lv_if_eq (tgt := 47) hx hb dX2_clear_37 (by decide) (fun c37 => ?_) (fun c37 => ?_)
          · have c37 := bz_0 hr34 c37
            exact absurd hT c37
          · have c37 := bz_1 hr34 c37
            refine lv_aload_n hx hb dX2_clear_40 rfl (lv_at hl 0 rfl) ?_
            refine va_get (D := D) (ci := ciM) (v := .ref (ad 3)) (C := RX2) (T := TX2) (N := 8) hx hb hts inM hown hK hP 10 (md_a0 M) rfl 2 (by decide) (hts _ (inT mw_49)) (fun _ h9 => h9) rfl dX2_clear_41 ?_
            refine lv_iload_n hx hb dX2_clear_44 rfl (lv_at hl 1 rfl) ?_
            refine lv_iconst (v := 0) hx hb dX2_clear_45 (by decide) ?_
            refine md_zst hx hb hK hP hD hS M hT (Or.inl rfl) dX2_clear_46 (fun ws3 H locs M hP hD hS => ?_)
            refine lv_iload_n hx hb dX2_clear_47 rfl (lv_at hl 1 rfl) ?_
            refine xb_ri (va_runS (As := [.int t]) (rest := []) ⟨hx, hb, hml, hown, hts⟩ (cM_isT l D t) (va_cwS 1 hts (gM_S 89 yX2_isTally (.code yX2_isTally cX2_isTally 1 (some .boolean)) (by decide +kernel) mw_71) rfl rfl rfl (by decide +kernel) ⟨Nat.le_of_ble_eq_true rfl, Nat.le_of_ble_eq_true rfl⟩) (xb_ps rfl hP hK hD) rfl rfl hl.1 rfl (lv_room (Nat.le_of_ble_eq_true rfl)) dX2_clear_48 ⟨Nat.le_of_ble_eq_true rfl, Nat.le_of_ble_eq_true rfl⟩) hD hS hA (fun r48 ws4 H locs hws4 hP hD hS => ?_)
            obtain ⟨hr48, rfl⟩ := hws4
            exact xb_zr hx hb hr hlocks hP hK hD hS dX2_clear_51 (by rw [hr48]; split <;> rfl) (by rw [sp_clear, if_pos hT]; rw [if_pos hT] at hr48; exact ⟨⟨_, _, _, _, _, _, _, M, cl_up T hT hT1 hT2⟩, hr48⟩)
        · refine lv_iload_n hx hb dX2_clear_8 rfl (lv_at hl 1 rfl) ?_
          refine xb_ri (va_runS (As := [.int t]) (rest := []) ⟨hx, hb, hml, hown, hts⟩ (cM_isT l D t) (va_cwS 1 hts (gM_S 89 yX2_isTally (.code yX2_isTally cX2_isTally 1 (some .boolean)) (by decide +kernel) mw_71) rfl rfl rfl (by decide +kernel) ⟨Nat.le_of_ble_eq_true rfl, Nat.le_of_ble_eq_true rfl⟩) (xb_ps rfl hP hK hD) rfl rfl hl.1 rfl (lv_room (Nat.le_of_ble_eq_true rfl)) dX2_clear_9 ⟨Nat.le_of_ble_eq_true rfl, Nat.le_of_ble_eq_true rfl⟩) hD hS hA (fun r9 ws2 H locs hws2 hP hD hS => ?_)
          obtain ⟨hr9, rfl⟩ := hws2
          refine lv_if_eq (tgt := 33) hx hb dX2_clear_12 (by decide) (fun c12 => ?_) (fun c12 => ?_)
          · have c12 := bz_0 hr9 c12
            exact absurd hT c12
          · have c12 := bz_1 hr9 c12
            have q40 := nlt (M := 40) rfl exi (by decide) c5 (by omega)
            refine lv_aload_n hx hb dX2_clear_15 rfl (lv_at hl 0 rfl) ?_
            refine va_get (D := D) (ci := ciM) (v := .ref (ad 2)) (C := RX2) (T := TX2) (N := 8) hx hb hts inM hown hK hP 10 (md_a0 M) rfl 1 (by decide) (hts _ (inT mw_48)) (fun _ h9 => h9) rfl dX2_clear_16 ?_
            refine lv_bipush (v := 40) hx hb dX2_clear_19 (by decide) ?_
            refine lv_iload_n hx hb dX2_clear_21 rfl (lv_at hl 1 rfl) ?_
            refine lv_imul hx hb dX2_clear_22 ?_
            refine lv_iload_n hx hb dX2_clear_23 rfl (lv_at hl 2 rfl) ?_
            refine lv_iadd hx hb dX2_clear_24 ?_
            refine lv_iconst (v := 0) hx hb dX2_clear_25 (by decide) ?_
            refine ia_st (x := 0) hx hb hK hP hD hS (md_a2 M) (md_t1 M) (ix40 hT exi) (lt160 hT q40) (by decide) dX2_clear_26 (fun ws3 H locs hws3 hP hD hS => ?_)
            have M := md_stf M hws3
            refine lv_iinc (v := xi + 1) (lv' := [(2, .int (xi + 1)), (0, .ref (ad 0)), (1, .int t)]) hx hb dX2_clear_27 hl (k := 2) rfl (by rfl) (by decide) rfl (fun ls hl => ?_)
            refine lv_goto (tgt := 2) hx hb dX2_clear_30 (by decide) ?_
            exact ih (i + 1) (xi + 1) _ ws3 H locs ls (by omega) (by omega) (by rw [exi]; exact nI_1 i) M (cJ1 hT1) (tJ2 hT2) hP hD hS (lv_sub hl [1, 2, 0] rfl)
    refine lv_iconst (v := 0) hx hb dX2_clear_0 (by decide) ?_
    refine lv_istore_n (lv' := [(2, .int 0), (0, .ref (ad 0)), (1, .int t)]) hx hb dX2_clear_1 rfl hl (by decide) rfl (fun ls hl => ?_)
    exact loop 41 0 0 tf ws s.heap [] ls (by omega) (by omega) nI_0.symm M (fun k hk => absurd hk (by omega)) (fun q _ => rfl) hP hD hS (lv_sub hl [1, 2, 0] rfl)
  · refine lv_iconst (v := 0) hx hb dX2_clear_0 (by decide) ?_
    refine lv_istore_n (lv' := [(2, .int 0), (0, .ref (ad 0)), (1, .int t)]) hx hb dX2_clear_1 rfl hl (by decide) rfl (fun ls hl => ?_)
    refine lv_iload_n hx hb dX2_clear_2 rfl (lv_at hl 0 rfl) ?_
    refine lv_bipush (v := 40) hx hb dX2_clear_3 (by decide) ?_
    refine lv_icmp_ge (tgt := 33) hx hb dX2_clear_5 (by decide) (fun c5 => ?_) (fun c5 => ?_)
    · exact absurd c5 (by decide)
    · refine lv_iload_n hx hb dX2_clear_8 rfl (lv_at hl 2 rfl) ?_
      refine xb_ri (va_runS (As := [.int t]) (rest := []) ⟨hx, hb, hml, hown, hts⟩ (cM_isT l D t) (va_cwS 1 hts (gM_S 89 yX2_isTally (.code yX2_isTally cX2_isTally 1 (some .boolean)) (by decide +kernel) mw_71) rfl rfl rfl (by decide +kernel) ⟨Nat.le_of_ble_eq_true rfl, Nat.le_of_ble_eq_true rfl⟩) (xb_ps rfl hP hK hD) rfl rfl hl.1 rfl (lv_room (Nat.le_of_ble_eq_true rfl)) dX2_clear_9 ⟨Nat.le_of_ble_eq_true rfl, Nat.le_of_ble_eq_true rfl⟩) hD hS hA (fun r9 ws1 H locs hws1 hP hD hS => ?_)
      obtain ⟨hr9, rfl⟩ := hws1
      refine lv_if_eq (tgt := 33) hx hb dX2_clear_12 (by decide) (fun c12 => ?_) (fun c12 => ?_)
      · have c12 := bz_0 hr9 c12
        refine lv_iload_n hx hb dX2_clear_33 rfl (lv_at hl 2 rfl) ?_
        refine xb_ri (va_runS (As := [.int t]) (rest := []) ⟨hx, hb, hml, hown, hts⟩ (cM_isT l D t) (va_cwS 1 hts (gM_S 89 yX2_isTally (.code yX2_isTally cX2_isTally 1 (some .boolean)) (by decide +kernel) mw_71) rfl rfl rfl (by decide +kernel) ⟨Nat.le_of_ble_eq_true rfl, Nat.le_of_ble_eq_true rfl⟩) (xb_ps rfl hP hK hD) rfl rfl hl.1 rfl (lv_room (Nat.le_of_ble_eq_true rfl)) dX2_clear_34 ⟨Nat.le_of_ble_eq_true rfl, Nat.le_of_ble_eq_true rfl⟩) hD hS hA (fun r34 ws2 H locs hws2 hP hD hS => ?_)
        obtain ⟨hr34, rfl⟩ := hws2
        refine lv_if_eq (tgt := 47) hx hb dX2_clear_37 (by decide) (fun c37 => ?_) (fun c37 => ?_)
        · have c37 := bz_0 hr34 c37
          refine lv_iload_n hx hb dX2_clear_47 rfl (lv_at hl 2 rfl) ?_
          refine xb_ri (va_runS (As := [.int t]) (rest := []) ⟨hx, hb, hml, hown, hts⟩ (cM_isT l D t) (va_cwS 1 hts (gM_S 89 yX2_isTally (.code yX2_isTally cX2_isTally 1 (some .boolean)) (by decide +kernel) mw_71) rfl rfl rfl (by decide +kernel) ⟨Nat.le_of_ble_eq_true rfl, Nat.le_of_ble_eq_true rfl⟩) (xb_ps rfl hP hK hD) rfl rfl hl.1 rfl (lv_room (Nat.le_of_ble_eq_true rfl)) dX2_clear_48 ⟨Nat.le_of_ble_eq_true rfl, Nat.le_of_ble_eq_true rfl⟩) hD hS hA (fun r48 ws3 H locs hws3 hP hD hS => ?_)
          obtain ⟨hr48, rfl⟩ := hws3
          exact xb_zr hx hb hr hlocks hP hK hD hS dX2_clear_51 (by rw [hr48]; split <;> rfl) (by rw [if_neg hT] at hr48; rw [sp_clear, if_neg hT]; exact ⟨⟨tf, bf, _, _, _, _, _, M, T⟩, hr48⟩)
        · have c37 := bz_1 hr34 c37
          exact absurd c37 hT
      · have c12 := bz_1 hr9 c12
        exact absurd c12 hT
set_option maxHeartbeats 4000000 in
set_option maxRecDepth 100000 in
theorem cM_digits (l : Launch) (D : va_G) {tys : xT} {ws : va_W} {sz : Nat} {w0 : va_W} {ad : Nat → Nat} {cB : Nat → ClassId} {rf : Nat → Int64} {tf bf fa fb fc fr : Nat → Int32} {ng : Int32} (M : md w0 ws tys ad cB rf tf bf fa fb fc fr ng) {tv : Nat → Int} (T : mt tf bf tv) (t : Int32) : xM l yX2_digits (.code yX2_digits cX2_digits 4 (some .int) :: mdT) ({ frames := 1, cells := 0, slots := 0, locals := 20 }) D tys ws sz [.ref (ad 0), .int t] (xQi D tys (fun a w => mdS w0 w tys ad cB (rf, tv) ∧ sp_digits (rf, tv) t a)) 0 0 := by
  refine xb_m (cc := cX2_digits) (maxL := 4) (ret := (some .int)) (by decide) rfl (Nat.le_of_ble_eq_true rfl) ?_
  intro p e s m below meth c A ls hx hb hr hml hown hts hlocks hnm hA hP hK hD hS hl
  have hl : lv_has ls 4 [(0, .ref (ad 0)), (1, .int t)] := hl
  have hown : s.vm.findClass RX2 = some m.cls := hown
  by_cases hT : okT t
  · have loop : ∀ (n i L : Nat) (xi x2 : Int32) (H : Heap) (locs : List Loc) (ls : Array Slot), i ≤ 36 → 36 < i + n → xi = nI i → x2 = nI L → sLen ((tv t.toNatClampNeg).natAbs % 10 ^ i) L → L ≤ 36 → va_P D vwCl ws H → va_S A s.heap H locs → lv_has ls 4 [(0, .ref (ad 0)), (1, .int t), (2, .int x2), (3, .int xi)] → W p l e ({ frames := 1, cells := 0, slots := 0, locals := 20 }) s m [.ref (ad 0), .int t].toArray below meth c H locs 0 0 (MQ below (xQi D tys (fun a w => mdS w0 w tys ad cB (rf, tv) ∧ sp_digits (rf, tv) t a) A) [.ref (ad 0), .int t].toArray s 0 0 A) (F0 m 4 ls []) := by
      intro n
      induction n with
      | zero =>
        intro i L xi x2 H locs ls h1 h2
        omega
      | succ n ih =>
        intro i L xi x2 H locs ls h1 h2 exi ex2 hL hL6 hP hS hl
        refine lv_iload_n hx hb dX2_digits_4 rfl (lv_at hl 3 rfl) ?_
        refine lv_bipush (v := 36) hx hb dX2_digits_5 (by decide) ?_
        refine lv_icmp_ge (tgt := 45) hx hb dX2_digits_7 (by decide) (fun c7 => ?_) (fun c7 => ?_)
        · have q36 := nge (M := 36) rfl exi (by decide) c7 (by omega)
          have e36 : i = 36 := by omega
          subst e36
          rw [Nat.mod_eq_of_lt (mt_l T hT)] at hL
          refine lv_iload_n hx hb dX2_digits_45 rfl (lv_at hl 1 rfl) ?_
          refine xb_ri (va_runS (As := [.int t]) (rest := []) ⟨hx, hb, hml, hown, hts⟩ (cM_isT l D t) (va_cwS 1 hts (gM_S 89 yX2_isTally (.code yX2_isTally cX2_isTally 1 (some .boolean)) (by decide +kernel) mw_71) rfl rfl rfl (by decide +kernel) ⟨Nat.le_of_ble_eq_true rfl, Nat.le_of_ble_eq_true rfl⟩) (xb_ps rfl hP hK hD) rfl rfl hl.1 rfl (lv_room (Nat.le_of_ble_eq_true rfl)) dX2_digits_46 ⟨Nat.le_of_ble_eq_true rfl, Nat.le_of_ble_eq_true rfl⟩) hD hS hA (fun r46 ws2 H locs hws2 hP hD hS => ?_)
          obtain ⟨hr46, rfl⟩ := hws2
          refine lv_if_ne (tgt := 56) hx hb dX2_digits_49 (by decide) (fun c49 => ?_) (fun c49 => ?_)
          · have c49 := bz_1 hr46 c49
            refine lv_aload_n hx hb dX2_digits_56 rfl (lv_at hl 0 rfl) ?_
            refine va_get (D := D) (ci := ciM) (v := .ref (ad 3)) (C := RX2) (T := TX2) (N := 8) hx hb hts inM hown hK hP 10 (md_a0 M) rfl 2 (by decide) (hts _ (inT mw_49)) (fun _ h9 => h9) rfl dX2_digits_57 ?_
            refine lv_iload_n hx hb dX2_digits_60 rfl (lv_at hl 1 rfl) ?_
            refine md_zld hx hb hK hP M hT dX2_digits_61 ?_
            refine lv_if_eq (tgt := 70) hx hb dX2_digits_62 (by decide) (fun c62 => ?_) (fun c62 => ?_)
            · refine lv_iload_n hx hb dX2_digits_70 rfl (lv_at hl 2 rfl) ?_
              exact xb_ir hx hb hr hlocks hP hK hD hS dX2_digits_71 (⟨⟨tf, bf, _, _, _, _, _, M, T⟩, by rw [sp_digits, if_pos hT]; exact ⟨L, hL, hL6, by rw [if_neg (bz_0 (mt_b T hT) c62)]; exact ex2⟩⟩)
            · refine lv_iload_n hx hb dX2_digits_65 rfl (lv_at hl 2 rfl) ?_
              refine lv_ineg hx hb dX2_digits_66 ?_
              refine lv_goto (tgt := 71) hx hb dX2_digits_67 (by decide) ?_
              exact xb_ir hx hb hr hlocks hP hK hD hS dX2_digits_71 (⟨⟨tf, bf, _, _, _, _, _, M, T⟩, by rw [sp_digits, if_pos hT]; exact ⟨L, hL, hL6, by rw [if_pos (bz_1 (mt_b T hT) c62), ex2]⟩⟩)
          · have c49 := bz_0 hr46 c49
            exact absurd hT c49
        · refine lv_iload_n hx hb dX2_digits_10 rfl (lv_at hl 1 rfl) ?_
          refine xb_ri (va_runS (As := [.int t]) (rest := []) ⟨hx, hb, hml, hown, hts⟩ (cM_isT l D t) (va_cwS 1 hts (gM_S 89 yX2_isTally (.code yX2_isTally cX2_isTally 1 (some .boolean)) (by decide +kernel) mw_71) rfl rfl rfl (by decide +kernel) ⟨Nat.le_of_ble_eq_true rfl, Nat.le_of_ble_eq_true rfl⟩) (xb_ps rfl hP hK hD) rfl rfl hl.1 rfl (lv_room (Nat.le_of_ble_eq_true rfl)) dX2_digits_11 ⟨Nat.le_of_ble_eq_true rfl, Nat.le_of_ble_eq_true rfl⟩) hD hS hA (fun r11 ws2 H locs hws2 hP hD hS => ?_)
          obtain ⟨hr11, rfl⟩ := hws2
          refine lv_if_eq (tgt := 45) hx hb dX2_digits_14 (by decide) (fun c14 => ?_) (fun c14 => ?_)
          · have c14 := bz_0 hr11 c14
            exact absurd hT c14
          · have c14 := bz_1 hr11 c14
            have q36 := nlt (M := 36) rfl exi (by decide) c7 (by omega)
            refine lv_aload_n hx hb dX2_digits_17 rfl (lv_at hl 0 rfl) ?_
            refine va_get (D := D) (ci := ciM) (v := .ref (ad 2)) (C := RX2) (T := TX2) (N := 8) hx hb hts inM hown hK hP 10 (md_a0 M) rfl 1 (by decide) (hts _ (inT mw_48)) (fun _ h9 => h9) rfl dX2_digits_18 ?_
            refine lv_bipush (v := 40) hx hb dX2_digits_21 (by decide) ?_
            refine lv_iload_n hx hb dX2_digits_23 rfl (lv_at hl 1 rfl) ?_
            refine lv_imul hx hb dX2_digits_24 ?_
            refine lv_iload_n hx hb dX2_digits_25 rfl (lv_at hl 3 rfl) ?_
            refine lv_iadd hx hb dX2_digits_26 ?_
            refine ia_ld hx hb hK hP (md_a2 M) (md_t1 M) (ix40 hT exi) (lt160 hT (show i < 40 by omega)) (by decide) dX2_digits_27 ?_
            refine lv_if_le (tgt := 37) hx hb dX2_digits_28 (by decide) (fun c28 => ?_) (fun c28 => ?_)
            · refine lv_iload_n hx hb dX2_digits_37 rfl (lv_at hl 2 rfl) ?_
              refine lv_istore_n (lv' := [(2, .int x2), (0, .ref (ad 0)), (1, .int t), (3, .int xi)]) hx hb dX2_digits_38 rfl hl (by decide) rfl (fun ls hl => ?_)
              refine lv_iinc (v := xi + 1) (lv' := [(3, .int (xi + 1)), (2, .int x2), (0, .ref (ad 0)), (1, .int t)]) hx hb dX2_digits_39 hl (k := 3) rfl (by rfl) (by decide) rfl (fun ls hl => ?_)
              refine lv_goto (tgt := 4) hx hb dX2_digits_42 (by decide) ?_
              exact ih (i + 1) L (xi + 1) x2 H locs ls (by omega) (by omega) (by rw [exi]; exact nI_1 i) ex2 (by rw [mt_d T hT q36, nI_le0 (d9 _ i)] at c28; exact sL_z c28 hL) hL6 hP hS (lv_sub hl [2, 3, 1, 0] rfl)
            · refine lv_iload_n hx hb dX2_digits_31 rfl (lv_at hl 3 rfl) ?_
              refine lv_iconst (v := 1) hx hb dX2_digits_32 (by decide) ?_
              refine lv_iadd hx hb dX2_digits_33 ?_
              refine lv_goto (tgt := 38) hx hb dX2_digits_34 (by decide) ?_
              refine lv_istore_n (lv' := [(2, .int (xi + 1)), (0, .ref (ad 0)), (1, .int t), (3, .int xi)]) hx hb dX2_digits_38 rfl hl (by decide) rfl (fun ls hl => ?_)
              refine lv_iinc (v := xi + 1) (lv' := [(3, .int (xi + 1)), (2, .int (xi + 1)), (0, .ref (ad 0)), (1, .int t)]) hx hb dX2_digits_39 hl (k := 3) rfl (by rfl) (by decide) rfl (fun ls hl => ?_)
              refine lv_goto (tgt := 4) hx hb dX2_digits_42 (by decide) ?_
              exact ih (i + 1) (i + 1) (xi + 1) (xi + 1) H locs ls (by omega) (by omega) (by rw [exi]; exact nI_1 i) (by rw [exi]; exact nI_1 i) (by rw [mt_d T hT q36, nI_le0 (d9 _ i)] at c28; exact sL_p c28) (by omega) hP hS (lv_sub hl [2, 3, 1, 0] rfl)
    refine lv_iconst (v := 1) hx hb dX2_digits_0 (by decide) ?_
    refine lv_istore_n (lv' := [(2, .int 1), (0, .ref (ad 0)), (1, .int t)]) hx hb dX2_digits_1 rfl hl (by decide) rfl (fun ls hl => ?_)
    refine lv_iconst (v := 0) hx hb dX2_digits_2 (by decide) ?_
    refine lv_istore_n (lv' := [(3, .int 0), (2, .int 1), (0, .ref (ad 0)), (1, .int t)]) hx hb dX2_digits_3 rfl hl (by decide) rfl (fun ls hl => ?_)
    exact loop 37 0 1 0 1 s.heap [] ls (by omega) (by omega) nI_0.symm rfl (sL_0 _) (by omega) hP hS (lv_sub hl [2, 3, 1, 0] rfl)
  · refine lv_iconst (v := 1) hx hb dX2_digits_0 (by decide) ?_
    refine lv_istore_n (lv' := [(2, .int 1), (0, .ref (ad 0)), (1, .int t)]) hx hb dX2_digits_1 rfl hl (by decide) rfl (fun ls hl => ?_)
    refine lv_iconst (v := 0) hx hb dX2_digits_2 (by decide) ?_
    refine lv_istore_n (lv' := [(3, .int 0), (2, .int 1), (0, .ref (ad 0)), (1, .int t)]) hx hb dX2_digits_3 rfl hl (by decide) rfl (fun ls hl => ?_)
    refine lv_iload_n hx hb dX2_digits_4 rfl (lv_at hl 0 rfl) ?_
    refine lv_bipush (v := 36) hx hb dX2_digits_5 (by decide) ?_
    refine lv_icmp_ge (tgt := 45) hx hb dX2_digits_7 (by decide) (fun c7 => ?_) (fun c7 => ?_)
    · exact absurd c7 (by decide)
    · refine lv_iload_n hx hb dX2_digits_10 rfl (lv_at hl 3 rfl) ?_
      refine xb_ri (va_runS (As := [.int t]) (rest := []) ⟨hx, hb, hml, hown, hts⟩ (cM_isT l D t) (va_cwS 1 hts (gM_S 89 yX2_isTally (.code yX2_isTally cX2_isTally 1 (some .boolean)) (by decide +kernel) mw_71) rfl rfl rfl (by decide +kernel) ⟨Nat.le_of_ble_eq_true rfl, Nat.le_of_ble_eq_true rfl⟩) (xb_ps rfl hP hK hD) rfl rfl hl.1 rfl (lv_room (Nat.le_of_ble_eq_true rfl)) dX2_digits_11 ⟨Nat.le_of_ble_eq_true rfl, Nat.le_of_ble_eq_true rfl⟩) hD hS hA (fun r11 ws1 H locs hws1 hP hD hS => ?_)
      obtain ⟨hr11, rfl⟩ := hws1
      refine lv_if_eq (tgt := 45) hx hb dX2_digits_14 (by decide) (fun c14 => ?_) (fun c14 => ?_)
      · have c14 := bz_0 hr11 c14
        refine lv_iload_n hx hb dX2_digits_45 rfl (lv_at hl 3 rfl) ?_
        refine xb_ri (va_runS (As := [.int t]) (rest := []) ⟨hx, hb, hml, hown, hts⟩ (cM_isT l D t) (va_cwS 1 hts (gM_S 89 yX2_isTally (.code yX2_isTally cX2_isTally 1 (some .boolean)) (by decide +kernel) mw_71) rfl rfl rfl (by decide +kernel) ⟨Nat.le_of_ble_eq_true rfl, Nat.le_of_ble_eq_true rfl⟩) (xb_ps rfl hP hK hD) rfl rfl hl.1 rfl (lv_room (Nat.le_of_ble_eq_true rfl)) dX2_digits_46 ⟨Nat.le_of_ble_eq_true rfl, Nat.le_of_ble_eq_true rfl⟩) hD hS hA (fun r46 ws2 H locs hws2 hP hD hS => ?_)
        obtain ⟨hr46, rfl⟩ := hws2
        refine lv_if_ne (tgt := 56) hx hb dX2_digits_49 (by decide) (fun c49 => ?_) (fun c49 => ?_)
        · have c49 := bz_1 hr46 c49
          exact absurd c49 hT
        · have c49 := bz_0 hr46 c49
          refine lv_iconst (v := 0) hx hb dX2_digits_52 (by decide) ?_
          refine lv_goto (tgt := 71) hx hb dX2_digits_53 (by decide) ?_
          exact xb_ir hx hb hr hlocks hP hK hD hS dX2_digits_71 (⟨⟨tf, bf, _, _, _, _, _, M, T⟩, by rw [sp_digits, if_neg hT]⟩)
      · have c14 := bz_1 hr11 c14
        exact absurd c14 hT
set_option maxHeartbeats 4000000 in
set_option maxRecDepth 100000 in
theorem cM_digit (l : Launch) (D : va_G) {tys : xT} {ws : va_W} {sz : Nat} {w0 : va_W} {ad : Nat → Nat} {cB : Nat → ClassId} {rf : Nat → Int64} {tf bf fa fb fc fr : Nat → Int32} {ng : Int32} (M : md w0 ws tys ad cB rf tf bf fa fb fc fr ng) {tv : Nat → Int} (T : mt tf bf tv) (t k : Int32) : xM l yX2_digit (.code yX2_digit cX2_digit 3 (some .int) :: mdT) ({ frames := 1, cells := 0, slots := 0, locals := 20 }) D tys ws sz [.ref (ad 0), .int t, .int k] (xQi D tys (fun a w => mdS w0 w tys ad cB (rf, tv) ∧ a = sp_digit (rf, tv) t k)) 0 0 := by
  refine xb_m (cc := cX2_digit) (maxL := 3) (ret := (some .int)) (by decide) rfl (Nat.le_of_ble_eq_true rfl) ?_
  intro p e s m below meth c A ls hx hb hr hml hown hts hlocks hnm hA hP hK hD hS hl
  have hl : lv_has ls 3 [(0, .ref (ad 0)), (1, .int t), (2, .int k)] := hl
  have hown : s.vm.findClass RX2 = some m.cls := hown
  refine lv_iload_n hx hb dX2_digit_0 rfl (lv_at hl 1 rfl) ?_
  refine xb_ri (va_runS (As := [.int t]) (rest := []) ⟨hx, hb, hml, hown, hts⟩ (cM_isT l D t) (va_cwS 1 hts (gM_S 89 yX2_isTally (.code yX2_isTally cX2_isTally 1 (some .boolean)) (by decide +kernel) mw_71) rfl rfl rfl (by decide +kernel) ⟨Nat.le_of_ble_eq_true rfl, Nat.le_of_ble_eq_true rfl⟩) (xb_ps rfl hP hK hD) rfl rfl hl.1 rfl (lv_room (Nat.le_of_ble_eq_true rfl)) dX2_digit_1 ⟨Nat.le_of_ble_eq_true rfl, Nat.le_of_ble_eq_true rfl⟩) hD hS hA (fun r1 ws1 H locs hws1 hP hD hS => ?_)
  obtain ⟨hr1, rfl⟩ := hws1
  refine lv_if_eq (tgt := 31) hx hb dX2_digit_4 (by decide) (fun c4 => ?_) (fun c4 => ?_)
  · have c4 := bz_0 hr1 c4
    refine lv_iconst (v := (-1)) hx hb dX2_digit_31 (by decide) ?_
    exact xb_ir hx hb hr hlocks hP hK hD hS dX2_digit_32 (⟨⟨tf, bf, _, _, _, _, _, M, T⟩, by rw [sp_digit, if_neg (fun q => c4 q.1)]⟩)
  · have c4 := bz_1 hr1 c4
    refine lv_iload_n hx hb dX2_digit_7 rfl (lv_at hl 2 rfl) ?_
    refine lv_if_lt (tgt := 31) hx hb dX2_digit_8 (by decide) (fun c8 => ?_) (fun c8 => ?_)
    · refine lv_iconst (v := (-1)) hx hb dX2_digit_31 (by decide) ?_
      exact xb_ir hx hb hr hlocks hP hK hD hS dX2_digit_32 (⟨⟨tf, bf, _, _, _, _, _, M, T⟩, by rw [sp_digit, if_neg (fun q => q.2.1 c8)]⟩)
    · refine lv_iload_n hx hb dX2_digit_11 rfl (lv_at hl 2 rfl) ?_
      refine lv_bipush (v := 36) hx hb dX2_digit_12 (by decide) ?_
      refine lv_icmp_ge (tgt := 31) hx hb dX2_digit_14 (by decide) (fun c14 => ?_) (fun c14 => ?_)
      · refine lv_iconst (v := (-1)) hx hb dX2_digit_31 (by decide) ?_
        exact xb_ir hx hb hr hlocks hP hK hD hS dX2_digit_32 (⟨⟨tf, bf, _, _, _, _, _, M, T⟩, by rw [sp_digit, if_neg (fun q => Int32.not_lt.mpr c14 q.2.2)]⟩)
      · have hk36 := lt36 c8 (Int32.not_le.mp c14)
        refine lv_aload_n hx hb dX2_digit_17 rfl (lv_at hl 0 rfl) ?_
        refine va_get (D := D) (ci := ciM) (v := .ref (ad 2)) (C := RX2) (T := TX2) (N := 8) hx hb hts inM hown hK hP 10 (md_a0 M) rfl 1 (by decide) (hts _ (inT mw_48)) (fun _ h9 => h9) rfl dX2_digit_18 ?_
        refine lv_bipush (v := 40) hx hb dX2_digit_21 (by decide) ?_
        refine lv_iload_n hx hb dX2_digit_23 rfl (lv_at hl 1 rfl) ?_
        refine lv_imul hx hb dX2_digit_24 ?_
        refine lv_iload_n hx hb dX2_digit_25 rfl (lv_at hl 2 rfl) ?_
        refine lv_iadd hx hb dX2_digit_26 ?_
        refine ia_ld hx hb hK hP (md_a2 M) (md_t1 M) (ix40 c4 (ix_n c8)) (lt160 c4 (show k.toNatClampNeg < 40 by omega)) (by decide) dX2_digit_27 ?_
        refine lv_goto (tgt := 32) hx hb dX2_digit_28 (by decide) ?_
        exact xb_ir hx hb hr hlocks hP hK hD hS dX2_digit_32 (⟨⟨tf, bf, _, _, _, _, _, M, T⟩, by rw [sp_digit, if_pos ⟨c4, c8, Int32.not_le.mp c14⟩]; exact mt_d T c4 hk36⟩)
set_option maxHeartbeats 4000000 in
set_option maxRecDepth 100000 in
theorem cM_split (l : Launch) (D : va_G) {tys : xT} {ws : va_W} {sz : Nat} {w0 : va_W} {ad : Nat → Nat} {cB : Nat → ClassId} {rf : Nat → Int64} {tf bf fa fb fc fr : Nat → Int32} {ng : Int32} (M : md w0 ws tys ad cB rf tf bf fa fb fc fr ng) {tv : Nat → Int} (T : mt tf bf tv) (t : Int32) (d : Int64) (r : Int32) : xM l yX2_split (.code yX2_split cX2_split 8 (some .int) :: mdT) ({ frames := 2, cells := 0, slots := 0, locals := 47 }) D tys ws sz [.ref (ad 0), .int t, .long d, .int r] (xQi D tys (fun a w => mdS w0 w tys ad cB (sp_split (rf, tv) t d r).2 ∧ a = (sp_split (rf, tv) t d r).1)) 0 0 := by
  refine xb_m (cc := cX2_split) (maxL := 8) (ret := (some .int)) (by decide) rfl (Nat.le_of_ble_eq_true rfl) ?_
  intro p e s m below meth c A ls hx hb hr hml hown hts hlocks hnm hA hP hK hD hS hl
  have hl : lv_has ls 8 [(0, .ref (ad 0)), (1, .int t), (2, .long d), (4, .int r)] := hl
  have hown : s.vm.findClass RX2 = some m.cls := hown
  have loop : okT t → okR r → ¬ d < 0 → d ≤ 1000000000000000000 → ¬ d = 0 → ∀ (k : Nat) (x5 : Int64) (x7 : Int32) (fx fy fz : Nat → Int32) (ws1 : va_W) (H : Heap) (locs : List Loc) (ls : Array Slot), k ≤ 20 → x7 = nI k + (-1) → x5.toInt = ((((tv t.toNatClampNeg).natAbs % d.toInt.natAbs) / 10 ^ k : Nat) : Int) → md w0 ws1 tys ad cB rf tf bf fz fy fc fx (bf t.toNatClampNeg) → dg fx ((tv t.toNatClampNeg).natAbs % d.toInt.natAbs) → dg fz ((tv t.toNatClampNeg).natAbs / d.toInt.natAbs) → va_P D vwCl ws1 H → va_D A ws1 → va_S A s.heap H locs → lv_has ls 8 [(0, .ref (ad 0)), (1, .int t), (4, .int r), (5, .long x5), (7, .int x7)] → W p l e ({ frames := 2, cells := 0, slots := 0, locals := 47 }) s m [.ref (ad 0), .int t, .long d, .int r].toArray below meth c H locs 0 0 (MQ below (xQi D tys (fun a w => mdS w0 w tys ad cB (sp_split (rf, tv) t d r).2 ∧ a = (sp_split (rf, tv) t d r).1) A) [.ref (ad 0), .int t, .long d, .int r].toArray s 0 0 A) (F0 m 63 ls []) := by
    intro c4 c12 c18 c26 c34 k
    have hdp := d_pos c18 c34
    have hd18 := d_18 c26 c18
    have hrl : ((tv t.toNatClampNeg).natAbs % d.toInt.natAbs) < 1000000000000000000 := Nat.lt_of_lt_of_le (Nat.mod_lt _ (by omega)) hd18
    induction k with
    | zero =>
      intro x5 x7 fx fy fz ws1 H locs ls h1 ex7 ex5 M hdx hdz hP hD hS hl
      obtain ⟨z1, z2⟩ := sp_fin ex5
      obtain ⟨s1, s2⟩ := sv_td (mt_b T c4) hdp
      refine lv_iload hx hb dX2_split_63 (lv_at hl 4 rfl) ?_
      refine lv_if_lt (tgt := 91) hx hb dX2_split_65 (by decide) (fun c65 => ?_) (fun c65 => ?_)
      · refine lv_aload_n hx hb dX2_split_91 rfl (lv_at hl 0 rfl) ?_
        refine va_get (D := D) (ci := ciM) (v := .ref (ad 1)) (C := RX2) (T := TX2) (N := 8) hx hb hts inM hown hK hP 10 (md_a0 M) rfl 0 (by decide) (hts _ (inT mw_3)) (fun _ h9 => h9) rfl dX2_split_92 ?_
        refine lv_iload hx hb dX2_split_95 (lv_at hl 2 rfl) ?_
        refine lv_aload_n hx hb dX2_split_97 rfl (lv_at hl 0 rfl) ?_
        refine va_get (D := D) (ci := ciM) (v := .int (bf t.toNatClampNeg)) (C := RX2) (T := TX2) (N := 8) hx hb hts inM hown hK hP 10 (md_a0 M) rfl 7 (by decide) (hts _ (inT mw_10)) (fun _ h9 => h9) rfl dX2_split_98 ?_
        refine lv_if_eq (tgt := 110) hx hb dX2_split_101 (by decide) (fun c101 => ?_) (fun c101 => ?_)
        · refine lv_lload hx hb dX2_split_110 (lv_at hl 3 rfl) ?_
          refine md_lst hx hb hK hP hD hS M c12 dX2_split_112 (fun ws2 H locs M hP hD hS => ?_)
          refine lv_aload_n hx hb dX2_split_113 rfl (lv_at hl 0 rfl) ?_
          refine lv_iload_n hx hb dX2_split_114 rfl (lv_at hl 1 rfl) ?_
          refine xb_ri (va_runV (As := [.int t]) (rest := []) ⟨hx, hb, hml, hown, hts⟩ (cM_keep l D M T hdz (Nat.lt_of_le_of_lt (Nat.div_le_self _ _) (b80 (mt_l T c4))) (mt_01 T c4) c4) (cwV 1 hts (gM_V 96 yX2_keep (.code yX2_keep cX2_keep 4 (some .int)) (by decide +kernel) mw_73) rfl rfl rfl (by decide +kernel) ⟨Nat.le_of_ble_eq_true rfl, Nat.le_of_ble_eq_true rfl⟩) (xb_pv hP hK hD rfl rfl (md_a0 M)) rfl rfl hl.1 rfl (lv_room (Nat.le_of_ble_eq_true rfl)) dX2_split_115 ⟨Nat.le_of_ble_eq_true rfl, Nat.le_of_ble_eq_true rfl⟩) hD hS hA (fun r115 ws3 H locs hws3 hP hD hS => ?_)
          exact xb_ir hx hb hr hlocks hP hK hD hS dX2_split_118 (fin_kT hws3 (split_eq ⟨c4, c12, c18, Int64.not_lt.mpr c26⟩ c34 (mt_l T c4) s1 (by rw [z1, ← sv_0 (x := ((tv t.toNatClampNeg).natAbs % d.toInt.natAbs)) c101, s2])))
        · refine lv_lload hx hb dX2_split_104 (lv_at hl 3 rfl) ?_
          refine lv_lneg hx hb dX2_split_106 ?_
          refine lv_goto (tgt := 112) hx hb dX2_split_107 (by decide) ?_
          refine md_lst hx hb hK hP hD hS M c12 dX2_split_112 (fun ws2 H locs M hP hD hS => ?_)
          refine lv_aload_n hx hb dX2_split_113 rfl (lv_at hl 0 rfl) ?_
          refine lv_iload_n hx hb dX2_split_114 rfl (lv_at hl 1 rfl) ?_
          refine xb_ri (va_runV (As := [.int t]) (rest := []) ⟨hx, hb, hml, hown, hts⟩ (cM_keep l D M T hdz (Nat.lt_of_le_of_lt (Nat.div_le_self _ _) (b80 (mt_l T c4))) (mt_01 T c4) c4) (cwV 1 hts (gM_V 96 yX2_keep (.code yX2_keep cX2_keep 4 (some .int)) (by decide +kernel) mw_73) rfl rfl rfl (by decide +kernel) ⟨Nat.le_of_ble_eq_true rfl, Nat.le_of_ble_eq_true rfl⟩) (xb_pv hP hK hD rfl rfl (md_a0 M)) rfl rfl hl.1 rfl (lv_room (Nat.le_of_ble_eq_true rfl)) dX2_split_115 ⟨Nat.le_of_ble_eq_true rfl, Nat.le_of_ble_eq_true rfl⟩) hD hS hA (fun r115 ws3 H locs hws3 hP hD hS => ?_)
          exact xb_ir hx hb hr hlocks hP hK hD hS dX2_split_118 (fin_kT hws3 (split_eq ⟨c4, c12, c18, Int64.not_lt.mpr c26⟩ c34 (mt_l T c4) s1 (by rw [z2, ← sv_1 (x := ((tv t.toNatClampNeg).natAbs % d.toInt.natAbs)) (n01 (mt_01 T c4) c101), s2])))
      · exact absurd (by rw [ex7]; decide) c65
    | succ u ih =>
      intro x5 x7 fx fy fz ws1 H locs ls h1 ex7 ex5 M hdx hdz hP hD hS hl
      rw [pk_m1] at ex7
      refine lv_iload hx hb dX2_split_63 (lv_at hl 4 rfl) ?_
      refine lv_if_lt (tgt := 91) hx hb dX2_split_65 (by decide) (fun c65 => ?_) (fun c65 => ?_)
      · exact absurd c65 (by rw [ex7]; exact nI_pos (by omega))
      · refine lv_ldc2 (v := 10) hx hb hown (hts _ (inT mw_18)) dX2_split_68 ?_
        refine lv_lload hx hb dX2_split_71 (lv_at hl 3 rfl) ?_
        refine lv_lmul hx hb dX2_split_73 ?_
        refine lv_aload_n hx hb dX2_split_74 rfl (lv_at hl 0 rfl) ?_
        refine va_get (D := D) (ci := ciM) (v := .ref (ad 7)) (C := RX2) (T := TX2) (N := 8) hx hb hts inM hown hK hP 10 (md_a0 M) rfl 6 (by decide) (hts _ (inT mw_25)) (fun _ h9 => h9) rfl dX2_split_75 ?_
        refine lv_iload hx hb dX2_split_78 (lv_at hl 4 rfl) ?_
        refine ia_ld hx hb hK hP (md_a7 M) (md_t6 M) ex7 (show u < 80 by omega) (by decide) dX2_split_80 ?_
        refine lv_i2l hx hb dX2_split_81 rfl ?_
        refine lv_ladd hx hb dX2_split_82 ?_
        refine lv_lstore (lv' := [(5, .long ((10 * x5) + ((fx u).toInt64))), (0, .ref (ad 0)), (1, .int t), (4, .int r), (7, .int x7)]) hx hb dX2_split_83 hl (by decide) rfl (fun ls hl => ?_)
        refine lv_iinc (v := x7 + (-1)) (lv' := [(7, .int (x7 + (-1))), (5, .long ((10 * x5) + ((fx u).toInt64))), (0, .ref (ad 0)), (1, .int t), (4, .int r)]) hx hb dX2_split_85 hl (k := 4) rfl (by rfl) (by decide) rfl (fun ls hl => ?_)
        refine lv_goto (tgt := 63) hx hb dX2_split_88 (by decide) ?_
        exact ih ((10 * x5) + ((fx u).toInt64)) (x7 + (-1)) fx fy fz ws1 H locs ls (by omega) (by rw [ex7]) (sp_step (by omega) ex5 (hdx u (by omega))) M hdx hdz hP hD hS (lv_sub hl [2, 3, 4, 1, 0] rfl)
  refine lv_iload_n hx hb dX2_split_0 rfl (lv_at hl 1 rfl) ?_
  refine xb_ri (va_runS (As := [.int t]) (rest := []) ⟨hx, hb, hml, hown, hts⟩ (cM_isT l D t) (va_cwS 1 hts (gM_S 89 yX2_isTally (.code yX2_isTally cX2_isTally 1 (some .boolean)) (by decide +kernel) mw_71) rfl rfl rfl (by decide +kernel) ⟨Nat.le_of_ble_eq_true rfl, Nat.le_of_ble_eq_true rfl⟩) (xb_ps rfl hP hK hD) rfl rfl hl.1 rfl (lv_room (Nat.le_of_ble_eq_true rfl)) dX2_split_1 ⟨Nat.le_of_ble_eq_true rfl, Nat.le_of_ble_eq_true rfl⟩) hD hS hA (fun r1 ws1 H locs hws1 hP hD hS => ?_)
  obtain ⟨hr1, rfl⟩ := hws1
  refine lv_if_eq (tgt := 29) hx hb dX2_split_4 (by decide) (fun c4 => ?_) (fun c4 => ?_)
  · have c4 := bz_0 hr1 c4
    refine lv_iconst (v := (-1)) hx hb dX2_split_29 (by decide) ?_
    exact xb_ir hx hb hr hlocks hP hK hD hS dX2_split_30 (fin_no M T (by rw [sp_split, if_neg (fun q => c4 q.1)]))
  · have c4 := bz_1 hr1 c4
    refine lv_iload hx hb dX2_split_7 (lv_at hl 3 rfl) ?_
    refine xb_ri (va_runS (As := [.int r]) (rest := []) ⟨hx, hb, hml, hown, hts⟩ (cM_isR l D r) (va_cwS 1 hts (gM_S 33 yX2_isRegister (.code yX2_isRegister cX2_isRegister 1 (some .boolean)) (by decide +kernel) mw_52) rfl rfl rfl (by decide +kernel) ⟨Nat.le_of_ble_eq_true rfl, Nat.le_of_ble_eq_true rfl⟩) (xb_ps rfl hP hK hD) rfl rfl hl.1 rfl (lv_room (Nat.le_of_ble_eq_true rfl)) dX2_split_9 ⟨Nat.le_of_ble_eq_true rfl, Nat.le_of_ble_eq_true rfl⟩) hD hS hA (fun r9 ws2 H locs hws2 hP hD hS => ?_)
    obtain ⟨hr9, rfl⟩ := hws2
    refine lv_if_eq (tgt := 29) hx hb dX2_split_12 (by decide) (fun c12 => ?_) (fun c12 => ?_)
    · have c12 := bz_0 hr9 c12
      refine lv_iconst (v := (-1)) hx hb dX2_split_29 (by decide) ?_
      exact xb_ir hx hb hr hlocks hP hK hD hS dX2_split_30 (fin_no M T (by rw [sp_split, if_neg (fun q => c12 q.2.1)]))
    · have c12 := bz_1 hr9 c12
      refine lv_lload_n hx hb dX2_split_15 rfl (lv_at hl 2 rfl) ?_
      refine lv_lconst (v := 0) hx hb dX2_split_16 (by decide) ?_
      refine W.lcmp hx hb dX2_split_17 ?_
      refine lv_if_lt (tgt := 29) hx hb dX2_split_18 (by decide) (fun c18 => ?_) (fun c18 => ?_)
      · rw [lg_cmp_lt] at c18
        refine lv_iconst (v := (-1)) hx hb dX2_split_29 (by decide) ?_
        exact xb_ir hx hb hr hlocks hP hK hD hS dX2_split_30 (fin_no M T (by rw [sp_split, if_neg (fun q => q.2.2.1 c18)]))
      · rw [lg_cmp_lt] at c18
        refine lv_lload_n hx hb dX2_split_21 rfl (lv_at hl 2 rfl) ?_
        refine lv_ldc2 (v := 1000000000000000000) hx hb hown (hts _ (inT mw_50)) dX2_split_22 ?_
        refine W.lcmp hx hb dX2_split_25 ?_
        refine lv_if_le (tgt := 31) hx hb dX2_split_26 (by decide) (fun c26 => ?_) (fun c26 => ?_)
        · rw [lg_cmp_le] at c26
          refine lv_lload_n hx hb dX2_split_31 rfl (lv_at hl 2 rfl) ?_
          refine lv_lconst (v := 0) hx hb dX2_split_32 (by decide) ?_
          refine W.lcmp hx hb dX2_split_33 ?_
          refine lv_if_ne (tgt := 39) hx hb dX2_split_34 (by decide) (fun c34 => ?_) (fun c34 => ?_)
          · rw [lg_cmp_eq] at c34
            refine lv_aload_n hx hb dX2_split_39 rfl (lv_at hl 0 rfl) ?_
            refine lv_iload_n hx hb dX2_split_40 rfl (lv_at hl 1 rfl) ?_
            refine xb_rv (va_runV (As := [.int t]) (rest := []) ⟨hx, hb, hml, hown, hts⟩ (cM_read l D M T c4) (cwV 1 hts (gM_V 92 yX2_read (.code yX2_read cX2_read 3 none) (by decide +kernel) mw_72) rfl rfl rfl (by decide +kernel) ⟨Nat.le_of_ble_eq_true rfl, Nat.le_of_ble_eq_true rfl⟩) (xb_pv hP hK hD rfl rfl (md_a0 M)) rfl rfl hl.1 rfl (lv_room (Nat.le_of_ble_eq_true rfl)) dX2_split_41 ⟨Nat.le_of_ble_eq_true rfl, Nat.le_of_ble_eq_true rfl⟩) hD hS hA (fun ws3 H locs hws3 hP hD hS => ?_)
            obtain ⟨fa_41, M, hdfa_41⟩ := hws3
            refine lv_lload_n hx hb dX2_split_44 rfl (lv_at hl 2 rfl) ?_
            refine lv_aload_n hx hb dX2_split_45 rfl (lv_at hl 0 rfl) ?_
            refine va_get (D := D) (ci := ciM) (v := .ref (ad 5)) (C := RX2) (T := TX2) (N := 8) hx hb hts inM hown hK hP 10 (md_a0 M) rfl 4 (by decide) (hts _ (inT mw_29)) (fun _ h9 => h9) rfl dX2_split_46 ?_
            refine xb_rv (va_runS (As := [.long d, .ref (ad 5)]) (rest := []) ⟨hx, hb, hml, hown, hts⟩ (cM_write l D (md_a5 M) (md_t4 M) d) (va_cwS 2 hts (gM_S 63 yX2_write (.code yX2_write cX2_write 7 none) (by decide +kernel) mw_56) rfl rfl rfl (by decide +kernel) ⟨Nat.le_of_ble_eq_true rfl, Nat.le_of_ble_eq_true rfl⟩) (xb_ps rfl hP hK hD) rfl rfl hl.1 rfl (lv_room (Nat.le_of_ble_eq_true rfl)) dX2_split_49 ⟨Nat.le_of_ble_eq_true rfl, Nat.le_of_ble_eq_true rfl⟩) hD hS hA (fun ws4 H locs hws4 hP hD hS => ?_)
            obtain ⟨fb_49, hws4, hdfb_49⟩ := hws4
            have M := md_sfb M hws4
            have hdfb_49 : dg fb_49 (d.toInt.natAbs) := hdfb_49
            refine lv_aload_n hx hb dX2_split_52 rfl (lv_at hl 0 rfl) ?_
            refine xb_rv (va_runV (As := []) (rest := []) ⟨hx, hb, hml, hown, hts⟩ (cM_div l D M hdfa_41 hdfb_49 (l_ne c34) (b80 (mt_l T c4)) (Nat.lt_of_le_of_lt (l_abs d) (by decide))) (cwV 0 hts (gM_V 82 yX2_divide (.code yX2_divide cX2_divide 4 none) (by decide +kernel) mw_68) rfl rfl rfl (by decide +kernel) ⟨Nat.le_of_ble_eq_true rfl, Nat.le_of_ble_eq_true rfl⟩) (xb_pv hP hK hD rfl rfl (md_a0 M)) rfl rfl hl.1 rfl (lv_room (Nat.le_of_ble_eq_true rfl)) dX2_split_53 ⟨Nat.le_of_ble_eq_true rfl, Nat.le_of_ble_eq_true rfl⟩) hD hS hA (fun ws5 H locs hws5 hP hD hS => ?_)
            obtain ⟨fa_53, fr_53, M, hdfa_53, hdfr_53⟩ := hws5
            refine lv_lconst (v := 0) hx hb dX2_split_56 (by decide) ?_
            refine lv_lstore (lv' := [(5, .long 0), (0, .ref (ad 0)), (1, .int t), (2, .long d), (4, .int r)]) hx hb dX2_split_57 hl (by decide) rfl (fun ls hl => ?_)
            refine lv_bipush (v := 19) hx hb dX2_split_59 (by decide) ?_
            refine lv_istore (lv' := [(7, .int 19), (5, .long 0), (0, .ref (ad 0)), (1, .int t), (2, .long d), (4, .int r)]) hx hb dX2_split_61 hl (by decide) rfl (fun ls hl => ?_)
            have hd18 := d_18 c26 c18
            exact loop c4 c12 c18 c26 c34 20 0 19 _ _ _ ws5 H locs ls (by omega) rfl (by rw [Nat.div_eq_of_lt (Nat.lt_trans (Nat.lt_of_lt_of_le (Nat.mod_lt _ (l_ne c34)) hd18) (by decide))]; rfl) M hdfr_53 hdfa_53 hP hD hS (lv_sub hl [2, 3, 5, 1, 0] rfl)
          · rw [lg_cmp_eq] at c34
            refine lv_iconst (v := 3) hx hb dX2_split_37 (by decide) ?_
            exact xb_ir hx hb hr hlocks hP hK hD hS dX2_split_38 (fin_no M T (by rw [sp_split, if_pos ⟨c4, c12, c18, Int64.not_lt.mpr c26⟩, if_pos c34]))
        · rw [lg_cmp_le] at c26
          refine lv_iconst (v := (-1)) hx hb dX2_split_29 (by decide) ?_
          exact xb_ir hx hb hr hlocks hP hK hD hS dX2_split_30 (fin_no M T (by rw [sp_split, if_neg (fun q => q.2.2.2 (Int64.not_le.mp c26))]))
