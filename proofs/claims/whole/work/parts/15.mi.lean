-- the reference: multiply (laid by wip/whole/gen_mi.py)
theorem mT_z {C0 ai y i j : Nat} (h : ai = 0) : mT C0 ai y i j = C0 := by unfold mT; rw [h, Nat.zero_mul, Nat.mul_zero, Nat.add_zero]
theorem mJ1 {f : Nat → Int32} {C0 ai y i j : Nat} {v : Int32} (h : ∀ k, k < i + j → f k = nI (mT C0 ai y i j / 10 ^ k % 10)) (hv : v = nI (mT C0 ai y i (j + 1) / 10 ^ (i + j) % 10)) : ∀ k, k < i + (j + 1) → upd f (i + j) v k = nI (mT C0 ai y i (j + 1) / 10 ^ k % 10) := fun k hk => by
  by_cases e : k = i + j
  · subst e; rw [up_s]; exact hv
  · rw [up_n e, h k (by omega), mT_lo (by omega)]
theorem mJ2 {f : Nat → Int32} {C0 i j : Nat} {v : Int32} (h : ∀ k, i + j ≤ k → k < 80 → f k = nI (C0 / 10 ^ k % 10)) : ∀ k, i + (j + 1) ≤ k → k < 80 → upd f (i + j) v k = nI (C0 / 10 ^ k % 10) := fun k hk hk8 => by
  rw [up_n (by omega)]; exact h k (by omega) hk8
set_option maxHeartbeats 4000000 in
set_option maxRecDepth 100000 in
theorem cM_isR (l : Launch) (D : va_G) {tys : xT} {ws : va_W} {sz : Nat} (r : Int32) : xM l yX2_isRegister (.code yX2_isRegister cX2_isRegister 1 (some .boolean) :: mdT) ({ frames := 0, cells := 0, slots := 0, locals := 0 }) D tys ws sz [.int r] (xQi D tys (fun a w => a = (if okR r then 1 else 0) ∧ ws = w)) 0 0 := by
  refine xb_m (cc := cX2_isRegister) (maxL := 1) (ret := (some .boolean)) (by decide) rfl (Nat.le_of_ble_eq_true rfl) ?_
  intro p e s m below meth c A ls hx hb hr hml hown hts hlocks hnm hA hP hK hD hS hl
  have hl : lv_has ls 1 [(0, .int r)] := hl
  have hown : s.vm.findClass RX2 = some m.cls := hown
  refine lv_iload_n hx hb dX2_isRegister_0 rfl (lv_at hl 0 rfl) ?_
  refine lv_if_lt (tgt := 14) hx hb dX2_isRegister_1 (by decide) (fun c1 => ?_) (fun c1 => ?_)
  · refine lv_iconst (v := 0) hx hb dX2_isRegister_14 (by decide) ?_
    exact xb_zr hx hb hr hlocks hP hK hD hS dX2_isRegister_15 rfl (⟨by rw [if_neg (fun q => q.1 c1)], rfl⟩)
  · refine lv_iload_n hx hb dX2_isRegister_4 rfl (lv_at hl 0 rfl) ?_
    refine lv_bipush (v := 8) hx hb dX2_isRegister_5 (by decide) ?_
    refine lv_icmp_ge (tgt := 14) hx hb dX2_isRegister_7 (by decide) (fun c7 => ?_) (fun c7 => ?_)
    · refine lv_iconst (v := 0) hx hb dX2_isRegister_14 (by decide) ?_
      exact xb_zr hx hb hr hlocks hP hK hD hS dX2_isRegister_15 rfl (⟨by rw [if_neg (fun q => Int32.not_lt.mpr c7 q.2)], rfl⟩)
    · refine lv_iconst (v := 1) hx hb dX2_isRegister_10 (by decide) ?_
      refine lv_goto (tgt := 15) hx hb dX2_isRegister_11 (by decide) ?_
      exact xb_zr hx hb hr hlocks hP hK hD hS dX2_isRegister_15 rfl (⟨by rw [if_pos ⟨c1, Int32.not_le.mp c7⟩], rfl⟩)
set_option maxHeartbeats 4000000 in
set_option maxRecDepth 100000 in
theorem cM_isT (l : Launch) (D : va_G) {tys : xT} {ws : va_W} {sz : Nat} (r : Int32) : xM l yX2_isTally (.code yX2_isTally cX2_isTally 1 (some .boolean) :: mdT) ({ frames := 0, cells := 0, slots := 0, locals := 0 }) D tys ws sz [.int r] (xQi D tys (fun a w => a = (if okT r then 1 else 0) ∧ ws = w)) 0 0 := by
  refine xb_m (cc := cX2_isTally) (maxL := 1) (ret := (some .boolean)) (by decide) rfl (Nat.le_of_ble_eq_true rfl) ?_
  intro p e s m below meth c A ls hx hb hr hml hown hts hlocks hnm hA hP hK hD hS hl
  have hl : lv_has ls 1 [(0, .int r)] := hl
  have hown : s.vm.findClass RX2 = some m.cls := hown
  refine lv_iload_n hx hb dX2_isTally_0 rfl (lv_at hl 0 rfl) ?_
  refine lv_if_lt (tgt := 13) hx hb dX2_isTally_1 (by decide) (fun c1 => ?_) (fun c1 => ?_)
  · refine lv_iconst (v := 0) hx hb dX2_isTally_13 (by decide) ?_
    exact xb_zr hx hb hr hlocks hP hK hD hS dX2_isTally_14 rfl (⟨by rw [if_neg (fun q => q.1 c1)], rfl⟩)
  · refine lv_iload_n hx hb dX2_isTally_4 rfl (lv_at hl 0 rfl) ?_
    refine lv_iconst (v := 4) hx hb dX2_isTally_5 (by decide) ?_
    refine lv_icmp_ge (tgt := 13) hx hb dX2_isTally_6 (by decide) (fun c6 => ?_) (fun c6 => ?_)
    · refine lv_iconst (v := 0) hx hb dX2_isTally_13 (by decide) ?_
      exact xb_zr hx hb hr hlocks hP hK hD hS dX2_isTally_14 rfl (⟨by rw [if_neg (fun q => Int32.not_lt.mpr c6 q.2)], rfl⟩)
    · refine lv_iconst (v := 1) hx hb dX2_isTally_9 (by decide) ?_
      refine lv_goto (tgt := 14) hx hb dX2_isTally_10 (by decide) ?_
      exact xb_zr hx hb hr hlocks hP hK hD hS dX2_isTally_14 rfl (⟨by rw [if_pos ⟨c1, Int32.not_le.mp c6⟩], rfl⟩)
set_option maxHeartbeats 4000000 in
set_option maxRecDepth 100000 in
theorem cM_mul (l : Launch) (D : va_G) {tys : xT} {ws : va_W} {sz : Nat} {w0 : va_W} {ad : Nat → Nat} {cB : Nat → ClassId} {rf : Nat → Int64} {tf bf fa fb fc fr : Nat → Int32} {ng : Int32} (M : md w0 ws tys ad cB rf tf bf fa fb fc fr ng) {x y : Nat} (hda : dg fa x) (hdb : dg fb y) (hxl : x < 10 ^ 40) (hyl : y < 10 ^ 40) : xM l yX2_multiply (.code yX2_multiply cX2_multiply 5 none :: mdT) ({ frames := 1, cells := 0, slots := 0, locals := 22 }) D tys ws sz [.ref (ad 0)] (xQv D tys (fun w => ∃ f1 f2, md w0 w tys ad cB rf tf bf f1 fb f2 fr ng ∧ dg f1 (x * y))) 0 0 := by
  refine xb_m (cc := cX2_multiply) (maxL := 5) (ret := none) (by decide) rfl (Nat.le_of_ble_eq_true rfl) ?_
  intro p e s m below meth c A ls hx hb hr hml hown hts hlocks hnm hA hP hK hD hS hl
  have hl : lv_has ls 5 [(0, .ref (ad 0))] := hl
  have hown : s.vm.findClass RX2 = some m.cls := hown
  have inner : ∀ (i : Nat) (xi : Int32), i < 80 → xi = nI i → (∀ (fj : Nat → Int32) (ws1 : va_W) (H : Heap) (locs : List Loc) (ls : Array Slot), md w0 ws1 tys ad cB rf tf bf fa fb fj fr ng → dg fj (x % 10 ^ (i + 1) * y) → va_P D vwCl ws1 H → va_D A ws1 → va_S A s.heap H locs → lv_has ls 5 [(0, .ref (ad 0)), (1, .int xi)] → W p l e ({ frames := 1, cells := 0, slots := 0, locals := 22 }) s m [.ref (ad 0)].toArray below meth c H locs 0 0 (MQ below (xQv D tys (fun w => ∃ f1 f2, md w0 w tys ad cB rf tf bf f1 fb f2 fr ng ∧ dg f1 (x * y)) A) [.ref (ad 0)].toArray s 0 0 A) (F0 m 87 ls [])) → ∀ (n j : Nat) (x2 xj : Int32) (fj : Nat → Int32) (ws1 : va_W) (H : Heap) (locs : List Loc) (ls : Array Slot), i + j ≤ 80 → 80 < i + j + n → xj = nI j → x2 = nI (mC (x % 10 ^ i * y) (x / 10 ^ i % 10) y i j) → md w0 ws1 tys ad cB rf tf bf fa fb fj fr ng → (∀ k, k < i + j → fj k = nI (mT (x % 10 ^ i * y) (x / 10 ^ i % 10) y i j / 10 ^ k % 10)) → (∀ k, i + j ≤ k → k < 80 → fj k = nI ((x % 10 ^ i * y) / 10 ^ k % 10)) → va_P D vwCl ws1 H → va_D A ws1 → va_S A s.heap H locs → lv_has ls 5 [(0, .ref (ad 0)), (1, .int xi), (2, .int x2), (3, .int xj)] → W p l e ({ frames := 1, cells := 0, slots := 0, locals := 22 }) s m [.ref (ad 0)].toArray below meth c H locs 0 0 (MQ below (xQv D tys (fun w => ∃ f1 f2, md w0 w tys ad cB rf tf bf f1 fb f2 fr ng ∧ dg f1 (x * y)) A) [.ref (ad 0)].toArray s 0 0 A) (F0 m 19 ls []) := by
    intro i xi hi8 exi K n
    induction n with
    | zero =>
      intro j x2 xj fj ws1 H locs ls h1 h2
      omega
    | succ n ih =>
      intro j x2 xj fj ws1 H locs ls h1 h2 exj ex2 M hJ1 hJ2 hP hD hS hl
      refine lv_iload_n hx hb dX2_multiply_19 rfl (lv_at hl 1 rfl) ?_
      refine lv_iload_n hx hb dX2_multiply_20 rfl (lv_at hl 3 rfl) ?_
      refine lv_iadd hx hb dX2_multiply_21 ?_
      refine lv_bipush (v := 80) hx hb dX2_multiply_22 (by decide) ?_
      refine lv_icmp_ge (tgt := 87) hx hb dX2_multiply_24 (by decide) (fun c24 => ?_) (fun c24 => ?_)
      · have q := nge (M := 80) (k := i + j) rfl (by rw [exi, exj, nI_add]) (by decide) c24 (by omega)
        exact K fj ws1 H locs ls M (fun k hk => by rw [hJ1 k (by omega), mT_end hxl hyl (Or.inl q)]) hP hD hS (lv_sub hl [0, 1] rfl)
      · have hij := nlt (M := 80) (k := i + j) rfl (by rw [exi, exj, nI_add]) (by decide) c24 (by omega)
        refine lv_aload_n hx hb dX2_multiply_27 rfl (lv_at hl 0 rfl) ?_
        refine va_get (D := D) (ci := ciM) (v := .ref (ad 4)) (C := RX2) (T := TX2) (N := 8) hx hb hts inM hown hK hP 10 (md_a0 M) rfl 3 (by decide) (hts _ (inT mw_7)) (fun _ h9 => h9) rfl dX2_multiply_28 ?_
        refine lv_iload_n hx hb dX2_multiply_31 rfl (lv_at hl 1 rfl) ?_
        refine ia_ld hx hb hK hP (md_a4 M) (md_t3 M) exi hi8 (by decide) dX2_multiply_32 ?_
        refine lv_if_le (tgt := 87) hx hb dX2_multiply_33 (by decide) (fun c33 => ?_) (fun c33 => ?_)
        · have q : x / 10 ^ i % 10 = 0 := by rw [hda i hi8] at c33; have := (nI_leI (b := 0) (by have := d9 x i; omega) (by decide)).mp c33; omega
          exact K fj ws1 H locs ls M (fun k hk => by rw [← mT_end (j := j) hxl hyl (Or.inr q)]; rcases Nat.lt_or_ge k (i + j) with z | z; exact hJ1 k z; rw [hJ2 k z hk, mT_z q]) hP hD hS (lv_sub hl [0, 1] rfl)
        · refine lv_aload_n hx hb dX2_multiply_36 rfl (lv_at hl 0 rfl) ?_
          refine va_get (D := D) (ci := ciM) (v := .ref (ad 6)) (C := RX2) (T := TX2) (N := 8) hx hb hts inM hown hK hP 10 (md_a0 M) rfl 5 (by decide) (hts _ (inT mw_11)) (fun _ h9 => h9) rfl dX2_multiply_37 ?_
          refine lv_iload_n hx hb dX2_multiply_40 rfl (lv_at hl 1 rfl) ?_
          refine lv_iload_n hx hb dX2_multiply_41 rfl (lv_at hl 3 rfl) ?_
          refine lv_iadd hx hb dX2_multiply_42 ?_
          refine ia_ld hx hb hK hP (md_a6 M) (md_t5 M) (show xi + xj = nI (i + j) by rw [exi, exj, nI_add]) hij (by decide) dX2_multiply_43 ?_
          refine lv_aload_n hx hb dX2_multiply_44 rfl (lv_at hl 0 rfl) ?_
          refine va_get (D := D) (ci := ciM) (v := .ref (ad 4)) (C := RX2) (T := TX2) (N := 8) hx hb hts inM hown hK hP 10 (md_a0 M) rfl 3 (by decide) (hts _ (inT mw_7)) (fun _ h9 => h9) rfl dX2_multiply_45 ?_
          refine lv_iload_n hx hb dX2_multiply_48 rfl (lv_at hl 1 rfl) ?_
          refine ia_ld hx hb hK hP (md_a4 M) (md_t3 M) exi hi8 (by decide) dX2_multiply_49 ?_
          refine lv_aload_n hx hb dX2_multiply_50 rfl (lv_at hl 0 rfl) ?_
          refine va_get (D := D) (ci := ciM) (v := .ref (ad 5)) (C := RX2) (T := TX2) (N := 8) hx hb hts inM hown hK hP 10 (md_a0 M) rfl 4 (by decide) (hts _ (inT mw_29)) (fun _ h9 => h9) rfl dX2_multiply_51 ?_
          refine lv_iload_n hx hb dX2_multiply_54 rfl (lv_at hl 3 rfl) ?_
          refine ia_ld hx hb hK hP (md_a5 M) (md_t4 M) exj (by omega) (by decide) dX2_multiply_55 ?_
          refine lv_imul hx hb dX2_multiply_56 ?_
          refine lv_iadd hx hb dX2_multiply_57 ?_
          refine lv_iload_n hx hb dX2_multiply_58 rfl (lv_at hl 2 rfl) ?_
          refine lv_iadd hx hb dX2_multiply_59 ?_
          refine lv_topi (fun x60 ex60 => ?_)
          have e60 : x60 = nI ((x % 10 ^ i * y) / 10 ^ (i + j) % 10 + (x / 10 ^ i % 10) * (y / 10 ^ j % 10) + mC (x % 10 ^ i * y) (x / 10 ^ i % 10) y i j) := by rw [ex60, hJ2 (i + j) (Nat.le_refl _) hij, hda i hi8, hdb j (by omega), ex2, pk_mul, nI_add, nI_add]
          have w1 := d9 x i
          have w2 := d9 y j
          have w3 : (x / 10 ^ i % 10) * (y / 10 ^ j % 10) ≤ 9 * 9 := Nat.mul_le_mul (by omega) (by omega)
          have w4 := mC_le (C0 := (x % 10 ^ i * y)) (y := y) (i := i) (j := j) w1
          have w5 := d9 (x % 10 ^ i * y) (i + j)
          refine lv_istore (lv' := [(4, .int x60), (0, .ref (ad 0)), (1, .int xi), (2, .int x2), (3, .int xj)]) hx hb dX2_multiply_60 hl (by decide) rfl (fun ls hl => ?_)
          refine lv_aload_n hx hb dX2_multiply_62 rfl (lv_at hl 1 rfl) ?_
          refine va_get (D := D) (ci := ciM) (v := .ref (ad 6)) (C := RX2) (T := TX2) (N := 8) hx hb hts inM hown hK hP 10 (md_a0 M) rfl 5 (by decide) (hts _ (inT mw_11)) (fun _ h9 => h9) rfl dX2_multiply_63 ?_
          refine lv_iload_n hx hb dX2_multiply_66 rfl (lv_at hl 2 rfl) ?_
          refine lv_iload_n hx hb dX2_multiply_67 rfl (lv_at hl 4 rfl) ?_
          refine lv_iadd hx hb dX2_multiply_68 ?_
          refine lv_iload hx hb dX2_multiply_69 (lv_at hl 0 rfl) ?_
          refine lv_bipush (v := 10) hx hb dX2_multiply_71 (by decide) ?_
          refine lv_irem hx hb dX2_multiply_73 (by decide) ?_
          refine ia_st (x := x60 - x60 / 10 * 10) hx hb hK hP hD hS (md_a6 M) (md_t5 M) (show xi + xj = nI (i + j) by rw [exi, exj, nI_add]) hij (by decide) dX2_multiply_74 (fun ws2 H locs hws2 hP hD hS => ?_)
          have M := md_sfc M hws2
          refine lv_iload hx hb dX2_multiply_75 (lv_at hl 0 rfl) ?_
          refine lv_bipush (v := 10) hx hb dX2_multiply_77 (by decide) ?_
          refine lv_idiv hx hb dX2_multiply_79 (by decide) ?_
          refine lv_istore_n (lv' := [(2, .int (x60 / 10)), (4, .int x60), (0, .ref (ad 0)), (1, .int xi), (3, .int xj)]) hx hb dX2_multiply_80 rfl hl (by decide) rfl (fun ls hl => ?_)
          refine lv_iinc (v := xj + 1) (lv' := [(3, .int (xj + 1)), (2, .int (x60 / 10)), (4, .int x60), (0, .ref (ad 0)), (1, .int xi)]) hx hb dX2_multiply_81 hl (k := 4) rfl (by rfl) (by decide) rfl (fun ls hl => ?_)
          refine lv_goto (tgt := 19) hx hb dX2_multiply_84 (by decide) ?_
          exact ih (j + 1) (x60 / 10) (xj + 1) (upd fj (i + j) (x60 - x60 / 10 * 10)) ws2 H locs ls (by omega) (by omega) (by rw [exj]; exact nI_1 j) (by rw [e60, show (10 : Int32) = nI 10 from rfl, pk_div (by omega) (by decide) (by decide), mS.2]) M (mJ1 hJ1 (by rw [e60, show (10 : Int32) = nI 10 from rfl, pk_rem (by omega) (by decide) (by decide), mS.1])) (mJ2 hJ2) hP hD hS (lv_sub hl [3, 4, 1, 0] rfl)
  have outer : ∀ (n i : Nat) (xi : Int32) (fi : Nat → Int32) (ws1 : va_W) (H : Heap) (locs : List Loc) (ls : Array Slot), i ≤ 80 → 80 < i + n → xi = nI i → md w0 ws1 tys ad cB rf tf bf fa fb fi fr ng → dg fi (x % 10 ^ i * y) → va_P D vwCl ws1 H → va_D A ws1 → va_S A s.heap H locs → lv_has ls 5 [(0, .ref (ad 0)), (1, .int xi)] → W p l e ({ frames := 1, cells := 0, slots := 0, locals := 22 }) s m [.ref (ad 0)].toArray below meth c H locs 0 0 (MQ below (xQv D tys (fun w => ∃ f1 f2, md w0 w tys ad cB rf tf bf f1 fb f2 fr ng ∧ dg f1 (x * y)) A) [.ref (ad 0)].toArray s 0 0 A) (F0 m 9 ls []) := by
    intro n
    induction n with
    | zero =>
      intro i xi fi ws1 H locs ls h1 h2
      omega
    | succ n ih =>
      intro i xi fi ws1 H locs ls h1 h2 exi M hdi hP hD hS hl
      refine lv_iload_n hx hb dX2_multiply_9 rfl (lv_at hl 1 rfl) ?_
      refine lv_bipush (v := 80) hx hb dX2_multiply_10 (by decide) ?_
      refine lv_icmp_ge (tgt := 93) hx hb dX2_multiply_12 (by decide) (fun c12 => ?_) (fun c12 => ?_)
      · have q := nge (M := 80) rfl exi (by decide) c12 (by omega)
        have q2 : i = 80 := by omega
        refine lv_aload_n hx hb dX2_multiply_93 rfl (lv_at hl 0 rfl) ?_
        refine va_get (D := D) (ci := ciM) (v := .ref (ad 6)) (C := RX2) (T := TX2) (N := 8) hx hb hts inM hown hK hP 10 (md_a0 M) rfl 5 (by decide) (hts _ (inT mw_11)) (fun _ h9 => h9) rfl dX2_multiply_94 ?_
        refine lv_aload_n hx hb dX2_multiply_97 rfl (lv_at hl 0 rfl) ?_
        refine va_get (D := D) (ci := ciM) (v := .ref (ad 4)) (C := RX2) (T := TX2) (N := 8) hx hb hts inM hown hK hP 10 (md_a0 M) rfl 3 (by decide) (hts _ (inT mw_7)) (fun _ h9 => h9) rfl dX2_multiply_98 ?_
        refine xb_rv (va_runS (As := [.ref (ad 6), .ref (ad 4)]) (rest := []) ⟨hx, hb, hml, hown, hts⟩ (cM_copy l D (md_a4 M) (md_t3 M) (md_a6 M) (md_t5 M) (by decide)) (va_cwS 2 hts (gM_S 43 yX2_copy (.code yX2_copy cX2_copy 3 none) (by decide +kernel) mw_61) rfl rfl rfl (by decide +kernel) ⟨Nat.le_of_ble_eq_true rfl, Nat.le_of_ble_eq_true rfl⟩) (xb_ps rfl hP hK hD) rfl rfl hl.1 rfl (lv_room (Nat.le_of_ble_eq_true rfl)) dX2_multiply_101 ⟨Nat.le_of_ble_eq_true rfl, Nat.le_of_ble_eq_true rfl⟩) hD hS hA (fun ws2 H locs hws2 hP hD hS => ?_)
        obtain ⟨fa_101, hws2, hdfa_101⟩ := hws2
        have M := md_sfa M hws2
        have hdfa_101 : dg fa_101 (x % 10 ^ i * y) := fun j hj => (hdfa_101 j hj).trans (hdi j hj)
        exact xb_vr hx hb hr hlocks hP hK hD hS dX2_multiply_104 (⟨_, _, M, by rw [q2, Nat.mod_eq_of_lt (Nat.lt_trans hxl (Nat.pow_lt_pow_right (by decide) (by decide)))] at hdfa_101; exact hdfa_101⟩)
      · have hi8 := nlt (M := 80) rfl exi (by decide) c12 (by omega)
        have K : ∀ (fj : Nat → Int32) (ws1 : va_W) (H : Heap) (locs : List Loc) (ls : Array Slot), md w0 ws1 tys ad cB rf tf bf fa fb fj fr ng → dg fj (x % 10 ^ (i + 1) * y) → va_P D vwCl ws1 H → va_D A ws1 → va_S A s.heap H locs → lv_has ls 5 [(0, .ref (ad 0)), (1, .int xi)] → W p l e ({ frames := 1, cells := 0, slots := 0, locals := 22 }) s m [.ref (ad 0)].toArray below meth c H locs 0 0 (MQ below (xQv D tys (fun w => ∃ f1 f2, md w0 w tys ad cB rf tf bf f1 fb f2 fr ng ∧ dg f1 (x * y)) A) [.ref (ad 0)].toArray s 0 0 A) (F0 m 87 ls []) := by
          intro fj ws1 H locs ls M hd hP hD hS hl
          refine lv_iinc (v := xi + 1) (lv' := [(1, .int (xi + 1)), (0, .ref (ad 0))]) hx hb dX2_multiply_87 hl (k := 1) rfl (by rfl) (by decide) rfl (fun ls hl => ?_)
          refine lv_goto (tgt := 9) hx hb dX2_multiply_90 (by decide) ?_
          exact ih (i + 1) (xi + 1) fj ws1 H locs ls (by omega) (by omega) (by rw [exi]; exact nI_1 i) M hd hP hD hS (lv_sub hl [1, 0] rfl)
        refine lv_iconst (v := 0) hx hb dX2_multiply_15 (by decide) ?_
        refine lv_istore_n (lv' := [(2, .int 0), (0, .ref (ad 0)), (1, .int xi)]) hx hb dX2_multiply_16 rfl hl (by decide) rfl (fun ls hl => ?_)
        refine lv_iconst (v := 0) hx hb dX2_multiply_17 (by decide) ?_
        refine lv_istore_n (lv' := [(3, .int 0), (2, .int 0), (0, .ref (ad 0)), (1, .int xi)]) hx hb dX2_multiply_18 rfl hl (by decide) rfl (fun ls hl => ?_)
        exact inner i xi hi8 exi K 81 0 0 0 fi ws1 H locs ls (by omega) (by omega) nI_0.symm (by rw [mC_0]; rfl) M (fun k hk => by rw [mT_0]; exact hdi k (by omega)) (fun k _ hk => hdi k hk) hP hD hS (lv_sub hl [2, 3, 1, 0] rfl)
  refine lv_aload_n hx hb dX2_multiply_0 rfl (lv_at hl 0 rfl) ?_
  refine va_get (D := D) (ci := ciM) (v := .ref (ad 6)) (C := RX2) (T := TX2) (N := 8) hx hb hts inM hown hK hP 10 (md_a0 M) rfl 5 (by decide) (hts _ (inT mw_11)) (fun _ h9 => h9) rfl dX2_multiply_1 ?_
  refine xb_rv (va_runS (As := [.ref (ad 6)]) (rest := []) ⟨hx, hb, hml, hown, hts⟩ (cM_nothing l D (md_a6 M) (md_t5 M)) (va_cwS 1 hts (gM_S 39 yX2_nothing (.code yX2_nothing cX2_nothing 2 none) (by decide +kernel) mw_66) rfl rfl rfl (by decide +kernel) ⟨Nat.le_of_ble_eq_true rfl, Nat.le_of_ble_eq_true rfl⟩) (xb_ps rfl hP hK hD) rfl rfl hl.1 rfl (lv_room (Nat.le_of_ble_eq_true rfl)) dX2_multiply_4 ⟨Nat.le_of_ble_eq_true rfl, Nat.le_of_ble_eq_true rfl⟩) hD hS hA (fun ws1 H locs hws1 hP hD hS => ?_)
  obtain ⟨fc_4, hws1, hdfc_4⟩ := hws1
  have M := md_sfc M hws1
  have hdfc_4 : dg fc_4 0 := fun j hj => by rw [hdfc_4 j hj, Nat.zero_div]; rfl
  refine lv_iconst (v := 0) hx hb dX2_multiply_7 (by decide) ?_
  refine lv_istore_n (lv' := [(1, .int 0), (0, .ref (ad 0))]) hx hb dX2_multiply_8 rfl hl (by decide) rfl (fun ls hl => ?_)
  exact outer 81 0 0 fc_4 ws1 H locs ls (by omega) (by omega) nI_0.symm M (by rw [Nat.pow_zero, Nat.mod_one, Nat.zero_mul]; exact hdfc_4) hP hD hS (lv_sub hl [1, 0] rfl)
