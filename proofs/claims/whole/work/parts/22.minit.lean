-- the reference's constructor (laid by wip/whole/gen_minit.py)
set_option maxHeartbeats 4000000 in
set_option maxRecDepth 100000 in
theorem cM_init (l : Launch) (D : va_G) (h0 sz : Nat) : Met l yX2_init wsX2_init ({ frames := 1, cells := 7, slots := 492, locals := 12 }) (va_Pc [.ref h0] (xb_P D [] [(h0, .inr (ciM, [.null, .null, .null, .null, .null, .null, .null, .int 0]))] sz)) (va_Qv (fun u : va_W × xT => ∃ (ad : Nat → Nat) (cB : Nat → ClassId), ad 0 = h0 ∧ u.1 = [(ad 0, .inr (ciM, [.ref (ad 1), .ref (ad 2), .ref (ad 3), .ref (ad 4), .ref (ad 5), .ref (ad 6), .ref (ad 7), .int 0])), (ad 1, .inl (cB 0, 8, .inr (.inl (fun _ => 0)))), (ad 2, .inl (cB 1, 160, .inl (fun _ => 0))), (ad 3, .inl (cB 2, 4, .inl (fun _ => 0))), (ad 4, .inl (cB 3, 80, .inl (fun _ => 0))), (ad 5, .inl (cB 4, 80, .inl (fun _ => 0))), (ad 6, .inl (cB 5, 80, .inl (fun _ => 0))), (ad 7, .inl (cB 6, 80, .inl (fun _ => 0)))] ∧ u.2 = [(cB 0, .long), (cB 1, .int), (cB 2, .boolean), (cB 3, .int), (cB 4, .int), (cB 5, .int), (cB 6, .int)]) (fun u t => xb_B D u.2 (va_A [(h0, .inr (ciM, [.null, .null, .null, .null, .null, .null, .null, .int 0]))] sz) u.1 t) (va_A [(h0, .inr (ciM, [.null, .null, .null, .null, .null, .null, .null, .int 0]))] sz)) 7 492 (va_A [(h0, .inr (ciM, [.null, .null, .null, .null, .null, .null, .null, .int 0]))] sz) := by
  refine Met.ofW (cc := cX2_init) (maxL := 1) (ret := none) (by decide) rfl ?_
  intro p e s m args below meth c s₁ B hml hv
  obtain ⟨rfl, hsz, hP, hK, hD0⟩ := hv
  have hx := B.exec
  have hb := B.bytes
  have hr := B.returns
  have hts := atoms_spec (ws := wsX2_init) B.pre
  have hown : s.vm.findClass RX2 = some m.cls := findClass_of_methodNamed B.named
  have hlocks := B.notSynchronized
  have hnm : meth.name = "<init>" := (name_of_methodNamed B.named B.method).1
  subst hsz
  have hD := hD0.self (sz := s.heap.size)
  generalize hAe : va_A [(h0, .inr (ciM, [.null, .null, .null, .null, .null, .null, .null, .int 0]))] s.heap.size = A at hD ⊢
  have hA : ∀ q : Nat, s.heap.size ≤ q → A q := fun q h => by rw [← hAe]; exact Or.inr h
  have hS : va_S A s.heap s.heap [] := va_S.rf
  have hl := lv_entry ([.ref h0]) (n := 1) (Nat.le_of_ble_eq_true rfl)
  rw [lg_entry_eq]
  generalize (lg_sl ([.ref h0]) ++ List.replicate (1 - (lg_sl ([.ref h0])).length) Slot.unset).toArray = ls at hl ⊢
  have hl : lv_has ls 1 [(0, .ref h0)] := hl
  refine lv_aload_n hx hb dX2_init_0 rfl (lv_at hl 0 rfl) ?_
  refine W.objInit hx hb hown (hts (.methodLink RX2 1 objectInit) (by decide +kernel)) (hts (.instanceMethod objectInit) (by decide +kernel)) (hts _ (List.mem_cons_of_mem _ (List.mem_of_getElem? (i := 2) rfl))) rfl (by rw [hml]; exact hl.1) rfl dX2_init_1 (Nat.le_of_ble_eq_true rfl) (Nat.le_of_ble_eq_true rfl) ?_
  refine W.eq (g2 := F0 m 4 ls []) rfl ?_
  refine lv_aload_n hx hb dX2_init_4 rfl (lv_at hl 0 rfl) ?_
  refine lv_bipush (v := 8) hx hb dX2_init_5 (by decide) ?_
  refine va_newa (atype := .long) (ty := .long) (N' := 8) (a0 := (8, .inr (.inl (fun _ => 0)))) hx hb (hts (.arrayClass .long) (by decide +kernel)) rfl hK hP hD hS hA (fun _ => rfl) (by decide) (by decide) (by decide) (Nat.le_of_ble_eq_true rfl) (Nat.le_of_ble_eq_true rfl) dX2_init_7 (fun q1 k1 H hK hP hD hS => ?_)
  have hP : va_P D vwCl [(h0, .inr (ciM, [.null, .null, .null, .null, .null, .null, .null, .int 0])), (q1, .inl (k1, 8, .inr (.inl (fun _ => 0))))] H := hP
  have hD : va_D A [(h0, .inr (ciM, [.null, .null, .null, .null, .null, .null, .null, .int 0])), (q1, .inl (k1, 8, .inr (.inl (fun _ => 0))))] := hD
  have hK : va_K D vwCl [(k1, .long)] s := hK
  refine va_putF (D := D) (ci := ciM) (v := .ref q1) (ty := .array .long) (C := RX2) (T := TX2) (N := 8) hx hb hts (by decide +kernel) tyX2 tyX2_ok nmX2 hown hK hP hD hS 0 rfl rfl 0 (by decide) (hts (.fieldLink RX2 7 "ExactDeskModel" "registers" "[J") (by decide +kernel)) (fun _ h9 => h9) rfl hnm rfl (by decide +kernel) rfl rfl (Nat.le_of_ble_eq_true rfl) dX2_init_9 (fun H locs hP hD hS => ?_)
  have hP : va_P D vwCl [(h0, .inr (ciM, [.ref q1, .null, .null, .null, .null, .null, .null, .int 0])), (q1, .inl (k1, 8, .inr (.inl (fun _ => 0))))] H := hP
  have hD : va_D A [(h0, .inr (ciM, [.ref q1, .null, .null, .null, .null, .null, .null, .int 0])), (q1, .inl (k1, 8, .inr (.inl (fun _ => 0))))] := hD
  refine lv_aload_n hx hb dX2_init_12 rfl (lv_at hl 0 rfl) ?_
  refine lv_sipush (v := 160) hx hb dX2_init_13 (by decide) ?_
  refine va_newa (atype := .int) (ty := .int) (N' := 160) (a0 := (160, .inl (fun _ => 0))) hx hb (hts (.arrayClass .int) (by decide +kernel)) rfl hK hP hD hS hA (fun _ => rfl) (by decide) (by decide) (by decide) (Nat.le_of_ble_eq_true rfl) (Nat.le_of_ble_eq_true rfl) dX2_init_16 (fun q2 k2 H hK hP hD hS => ?_)
  have hP : va_P D vwCl [(h0, .inr (ciM, [.ref q1, .null, .null, .null, .null, .null, .null, .int 0])), (q1, .inl (k1, 8, .inr (.inl (fun _ => 0)))), (q2, .inl (k2, 160, .inl (fun _ => 0)))] H := hP
  have hD : va_D A [(h0, .inr (ciM, [.ref q1, .null, .null, .null, .null, .null, .null, .int 0])), (q1, .inl (k1, 8, .inr (.inl (fun _ => 0)))), (q2, .inl (k2, 160, .inl (fun _ => 0)))] := hD
  have hK : va_K D vwCl [(k1, .long), (k2, .int)] s := hK
  refine va_putF (D := D) (ci := ciM) (v := .ref q2) (ty := .array .int) (C := RX2) (T := TX2) (N := 8) hx hb hts (by decide +kernel) tyX2 tyX2_ok nmX2 hown hK hP hD hS 0 rfl rfl 1 (by decide) (hts (.fieldLink RX2 13 "ExactDeskModel" "tallies" "[I") (by decide +kernel)) (fun _ h9 => h9) rfl hnm rfl (by decide +kernel) rfl rfl (Nat.le_of_ble_eq_true rfl) dX2_init_18 (fun H locs hP hD hS => ?_)
  have hP : va_P D vwCl [(h0, .inr (ciM, [.ref q1, .ref q2, .null, .null, .null, .null, .null, .int 0])), (q1, .inl (k1, 8, .inr (.inl (fun _ => 0)))), (q2, .inl (k2, 160, .inl (fun _ => 0)))] H := hP
  have hD : va_D A [(h0, .inr (ciM, [.ref q1, .ref q2, .null, .null, .null, .null, .null, .int 0])), (q1, .inl (k1, 8, .inr (.inl (fun _ => 0)))), (q2, .inl (k2, 160, .inl (fun _ => 0)))] := hD
  refine lv_aload_n hx hb dX2_init_21 rfl (lv_at hl 0 rfl) ?_
  refine lv_iconst (v := 4) hx hb dX2_init_22 (by decide) ?_
  refine va_newa (atype := .boolean) (ty := .boolean) (N' := 4) (a0 := (4, .inl (fun _ => 0))) hx hb (hts (.arrayClass .boolean) (by decide +kernel)) rfl hK hP hD hS hA (fun _ => rfl) (by decide) (by decide) (by decide) (Nat.le_of_ble_eq_true rfl) (Nat.le_of_ble_eq_true rfl) dX2_init_23 (fun q3 k3 H hK hP hD hS => ?_)
  have hP : va_P D vwCl [(h0, .inr (ciM, [.ref q1, .ref q2, .null, .null, .null, .null, .null, .int 0])), (q1, .inl (k1, 8, .inr (.inl (fun _ => 0)))), (q2, .inl (k2, 160, .inl (fun _ => 0))), (q3, .inl (k3, 4, .inl (fun _ => 0)))] H := hP
  have hD : va_D A [(h0, .inr (ciM, [.ref q1, .ref q2, .null, .null, .null, .null, .null, .int 0])), (q1, .inl (k1, 8, .inr (.inl (fun _ => 0)))), (q2, .inl (k2, 160, .inl (fun _ => 0))), (q3, .inl (k3, 4, .inl (fun _ => 0)))] := hD
  have hK : va_K D vwCl [(k1, .long), (k2, .int), (k3, .boolean)] s := hK
  refine va_putF (D := D) (ci := ciM) (v := .ref q3) (ty := .array .boolean) (C := RX2) (T := TX2) (N := 8) hx hb hts (by decide +kernel) tyX2 tyX2_ok nmX2 hown hK hP hD hS 0 rfl rfl 2 (by decide) (hts (.fieldLink RX2 17 "ExactDeskModel" "below" "[Z") (by decide +kernel)) (fun _ h9 => h9) rfl hnm rfl (by decide +kernel) rfl rfl (Nat.le_of_ble_eq_true rfl) dX2_init_25 (fun H locs hP hD hS => ?_)
  have hP : va_P D vwCl [(h0, .inr (ciM, [.ref q1, .ref q2, .ref q3, .null, .null, .null, .null, .int 0])), (q1, .inl (k1, 8, .inr (.inl (fun _ => 0)))), (q2, .inl (k2, 160, .inl (fun _ => 0))), (q3, .inl (k3, 4, .inl (fun _ => 0)))] H := hP
  have hD : va_D A [(h0, .inr (ciM, [.ref q1, .ref q2, .ref q3, .null, .null, .null, .null, .int 0])), (q1, .inl (k1, 8, .inr (.inl (fun _ => 0)))), (q2, .inl (k2, 160, .inl (fun _ => 0))), (q3, .inl (k3, 4, .inl (fun _ => 0)))] := hD
  refine lv_aload_n hx hb dX2_init_28 rfl (lv_at hl 0 rfl) ?_
  refine lv_bipush (v := 80) hx hb dX2_init_29 (by decide) ?_
  refine va_newa (atype := .int) (ty := .int) (N' := 80) (a0 := (80, .inl (fun _ => 0))) hx hb (hts (.arrayClass .int) (by decide +kernel)) rfl hK hP hD hS hA (fun _ => rfl) (by decide) (by decide) (by decide) (Nat.le_of_ble_eq_true rfl) (Nat.le_of_ble_eq_true rfl) dX2_init_31 (fun q4 k4 H hK hP hD hS => ?_)
  have hP : va_P D vwCl [(h0, .inr (ciM, [.ref q1, .ref q2, .ref q3, .null, .null, .null, .null, .int 0])), (q1, .inl (k1, 8, .inr (.inl (fun _ => 0)))), (q2, .inl (k2, 160, .inl (fun _ => 0))), (q3, .inl (k3, 4, .inl (fun _ => 0))), (q4, .inl (k4, 80, .inl (fun _ => 0)))] H := hP
  have hD : va_D A [(h0, .inr (ciM, [.ref q1, .ref q2, .ref q3, .null, .null, .null, .null, .int 0])), (q1, .inl (k1, 8, .inr (.inl (fun _ => 0)))), (q2, .inl (k2, 160, .inl (fun _ => 0))), (q3, .inl (k3, 4, .inl (fun _ => 0))), (q4, .inl (k4, 80, .inl (fun _ => 0)))] := hD
  have hK : va_K D vwCl [(k1, .long), (k2, .int), (k3, .boolean), (k4, .int)] s := hK
  refine va_putF (D := D) (ci := ciM) (v := .ref q4) (ty := .array .int) (C := RX2) (T := TX2) (N := 8) hx hb hts (by decide +kernel) tyX2 tyX2_ok nmX2 hown hK hP hD hS 0 rfl rfl 3 (by decide) (hts (.fieldLink RX2 21 "ExactDeskModel" "a" "[I") (by decide +kernel)) (fun _ h9 => h9) rfl hnm rfl (by decide +kernel) rfl rfl (Nat.le_of_ble_eq_true rfl) dX2_init_33 (fun H locs hP hD hS => ?_)
  have hP : va_P D vwCl [(h0, .inr (ciM, [.ref q1, .ref q2, .ref q3, .ref q4, .null, .null, .null, .int 0])), (q1, .inl (k1, 8, .inr (.inl (fun _ => 0)))), (q2, .inl (k2, 160, .inl (fun _ => 0))), (q3, .inl (k3, 4, .inl (fun _ => 0))), (q4, .inl (k4, 80, .inl (fun _ => 0)))] H := hP
  have hD : va_D A [(h0, .inr (ciM, [.ref q1, .ref q2, .ref q3, .ref q4, .null, .null, .null, .int 0])), (q1, .inl (k1, 8, .inr (.inl (fun _ => 0)))), (q2, .inl (k2, 160, .inl (fun _ => 0))), (q3, .inl (k3, 4, .inl (fun _ => 0))), (q4, .inl (k4, 80, .inl (fun _ => 0)))] := hD
  refine lv_aload_n hx hb dX2_init_36 rfl (lv_at hl 0 rfl) ?_
  refine lv_bipush (v := 80) hx hb dX2_init_37 (by decide) ?_
  refine va_newa (atype := .int) (ty := .int) (N' := 80) (a0 := (80, .inl (fun _ => 0))) hx hb (hts (.arrayClass .int) (by decide +kernel)) rfl hK hP hD hS hA (fun _ => rfl) (by decide) (by decide) (by decide) (Nat.le_of_ble_eq_true rfl) (Nat.le_of_ble_eq_true rfl) dX2_init_39 (fun q5 k5 H hK hP hD hS => ?_)
  have hP : va_P D vwCl [(h0, .inr (ciM, [.ref q1, .ref q2, .ref q3, .ref q4, .null, .null, .null, .int 0])), (q1, .inl (k1, 8, .inr (.inl (fun _ => 0)))), (q2, .inl (k2, 160, .inl (fun _ => 0))), (q3, .inl (k3, 4, .inl (fun _ => 0))), (q4, .inl (k4, 80, .inl (fun _ => 0))), (q5, .inl (k5, 80, .inl (fun _ => 0)))] H := hP
  have hD : va_D A [(h0, .inr (ciM, [.ref q1, .ref q2, .ref q3, .ref q4, .null, .null, .null, .int 0])), (q1, .inl (k1, 8, .inr (.inl (fun _ => 0)))), (q2, .inl (k2, 160, .inl (fun _ => 0))), (q3, .inl (k3, 4, .inl (fun _ => 0))), (q4, .inl (k4, 80, .inl (fun _ => 0))), (q5, .inl (k5, 80, .inl (fun _ => 0)))] := hD
  have hK : va_K D vwCl [(k1, .long), (k2, .int), (k3, .boolean), (k4, .int), (k5, .int)] s := hK
  refine va_putF (D := D) (ci := ciM) (v := .ref q5) (ty := .array .int) (C := RX2) (T := TX2) (N := 8) hx hb hts (by decide +kernel) tyX2 tyX2_ok nmX2 hown hK hP hD hS 0 rfl rfl 4 (by decide) (hts (.fieldLink RX2 24 "ExactDeskModel" "b" "[I") (by decide +kernel)) (fun _ h9 => h9) rfl hnm rfl (by decide +kernel) rfl rfl (Nat.le_of_ble_eq_true rfl) dX2_init_41 (fun H locs hP hD hS => ?_)
  have hP : va_P D vwCl [(h0, .inr (ciM, [.ref q1, .ref q2, .ref q3, .ref q4, .ref q5, .null, .null, .int 0])), (q1, .inl (k1, 8, .inr (.inl (fun _ => 0)))), (q2, .inl (k2, 160, .inl (fun _ => 0))), (q3, .inl (k3, 4, .inl (fun _ => 0))), (q4, .inl (k4, 80, .inl (fun _ => 0))), (q5, .inl (k5, 80, .inl (fun _ => 0)))] H := hP
  have hD : va_D A [(h0, .inr (ciM, [.ref q1, .ref q2, .ref q3, .ref q4, .ref q5, .null, .null, .int 0])), (q1, .inl (k1, 8, .inr (.inl (fun _ => 0)))), (q2, .inl (k2, 160, .inl (fun _ => 0))), (q3, .inl (k3, 4, .inl (fun _ => 0))), (q4, .inl (k4, 80, .inl (fun _ => 0))), (q5, .inl (k5, 80, .inl (fun _ => 0)))] := hD
  refine lv_aload_n hx hb dX2_init_44 rfl (lv_at hl 0 rfl) ?_
  refine lv_bipush (v := 80) hx hb dX2_init_45 (by decide) ?_
  refine va_newa (atype := .int) (ty := .int) (N' := 80) (a0 := (80, .inl (fun _ => 0))) hx hb (hts (.arrayClass .int) (by decide +kernel)) rfl hK hP hD hS hA (fun _ => rfl) (by decide) (by decide) (by decide) (Nat.le_of_ble_eq_true rfl) (Nat.le_of_ble_eq_true rfl) dX2_init_47 (fun q6 k6 H hK hP hD hS => ?_)
  have hP : va_P D vwCl [(h0, .inr (ciM, [.ref q1, .ref q2, .ref q3, .ref q4, .ref q5, .null, .null, .int 0])), (q1, .inl (k1, 8, .inr (.inl (fun _ => 0)))), (q2, .inl (k2, 160, .inl (fun _ => 0))), (q3, .inl (k3, 4, .inl (fun _ => 0))), (q4, .inl (k4, 80, .inl (fun _ => 0))), (q5, .inl (k5, 80, .inl (fun _ => 0))), (q6, .inl (k6, 80, .inl (fun _ => 0)))] H := hP
  have hD : va_D A [(h0, .inr (ciM, [.ref q1, .ref q2, .ref q3, .ref q4, .ref q5, .null, .null, .int 0])), (q1, .inl (k1, 8, .inr (.inl (fun _ => 0)))), (q2, .inl (k2, 160, .inl (fun _ => 0))), (q3, .inl (k3, 4, .inl (fun _ => 0))), (q4, .inl (k4, 80, .inl (fun _ => 0))), (q5, .inl (k5, 80, .inl (fun _ => 0))), (q6, .inl (k6, 80, .inl (fun _ => 0)))] := hD
  have hK : va_K D vwCl [(k1, .long), (k2, .int), (k3, .boolean), (k4, .int), (k5, .int), (k6, .int)] s := hK
  refine va_putF (D := D) (ci := ciM) (v := .ref q6) (ty := .array .int) (C := RX2) (T := TX2) (N := 8) hx hb hts (by decide +kernel) tyX2 tyX2_ok nmX2 hown hK hP hD hS 0 rfl rfl 5 (by decide) (hts (.fieldLink RX2 27 "ExactDeskModel" "c" "[I") (by decide +kernel)) (fun _ h9 => h9) rfl hnm rfl (by decide +kernel) rfl rfl (Nat.le_of_ble_eq_true rfl) dX2_init_49 (fun H locs hP hD hS => ?_)
  have hP : va_P D vwCl [(h0, .inr (ciM, [.ref q1, .ref q2, .ref q3, .ref q4, .ref q5, .ref q6, .null, .int 0])), (q1, .inl (k1, 8, .inr (.inl (fun _ => 0)))), (q2, .inl (k2, 160, .inl (fun _ => 0))), (q3, .inl (k3, 4, .inl (fun _ => 0))), (q4, .inl (k4, 80, .inl (fun _ => 0))), (q5, .inl (k5, 80, .inl (fun _ => 0))), (q6, .inl (k6, 80, .inl (fun _ => 0)))] H := hP
  have hD : va_D A [(h0, .inr (ciM, [.ref q1, .ref q2, .ref q3, .ref q4, .ref q5, .ref q6, .null, .int 0])), (q1, .inl (k1, 8, .inr (.inl (fun _ => 0)))), (q2, .inl (k2, 160, .inl (fun _ => 0))), (q3, .inl (k3, 4, .inl (fun _ => 0))), (q4, .inl (k4, 80, .inl (fun _ => 0))), (q5, .inl (k5, 80, .inl (fun _ => 0))), (q6, .inl (k6, 80, .inl (fun _ => 0)))] := hD
  refine lv_aload_n hx hb dX2_init_52 rfl (lv_at hl 0 rfl) ?_
  refine lv_bipush (v := 80) hx hb dX2_init_53 (by decide) ?_
  refine va_newa (atype := .int) (ty := .int) (N' := 80) (a0 := (80, .inl (fun _ => 0))) hx hb (hts (.arrayClass .int) (by decide +kernel)) rfl hK hP hD hS hA (fun _ => rfl) (by decide) (by decide) (by decide) (Nat.le_of_ble_eq_true rfl) (Nat.le_of_ble_eq_true rfl) dX2_init_55 (fun q7 k7 H hK hP hD hS => ?_)
  have hP : va_P D vwCl [(h0, .inr (ciM, [.ref q1, .ref q2, .ref q3, .ref q4, .ref q5, .ref q6, .null, .int 0])), (q1, .inl (k1, 8, .inr (.inl (fun _ => 0)))), (q2, .inl (k2, 160, .inl (fun _ => 0))), (q3, .inl (k3, 4, .inl (fun _ => 0))), (q4, .inl (k4, 80, .inl (fun _ => 0))), (q5, .inl (k5, 80, .inl (fun _ => 0))), (q6, .inl (k6, 80, .inl (fun _ => 0))), (q7, .inl (k7, 80, .inl (fun _ => 0)))] H := hP
  have hD : va_D A [(h0, .inr (ciM, [.ref q1, .ref q2, .ref q3, .ref q4, .ref q5, .ref q6, .null, .int 0])), (q1, .inl (k1, 8, .inr (.inl (fun _ => 0)))), (q2, .inl (k2, 160, .inl (fun _ => 0))), (q3, .inl (k3, 4, .inl (fun _ => 0))), (q4, .inl (k4, 80, .inl (fun _ => 0))), (q5, .inl (k5, 80, .inl (fun _ => 0))), (q6, .inl (k6, 80, .inl (fun _ => 0))), (q7, .inl (k7, 80, .inl (fun _ => 0)))] := hD
  have hK : va_K D vwCl [(k1, .long), (k2, .int), (k3, .boolean), (k4, .int), (k5, .int), (k6, .int), (k7, .int)] s := hK
  refine va_putF (D := D) (ci := ciM) (v := .ref q7) (ty := .array .int) (C := RX2) (T := TX2) (N := 8) hx hb hts (by decide +kernel) tyX2 tyX2_ok nmX2 hown hK hP hD hS 0 rfl rfl 6 (by decide) (hts (.fieldLink RX2 30 "ExactDeskModel" "rest" "[I") (by decide +kernel)) (fun _ h9 => h9) rfl hnm rfl (by decide +kernel) rfl rfl (Nat.le_of_ble_eq_true rfl) dX2_init_57 (fun H locs hP hD hS => ?_)
  have hP : va_P D vwCl [(h0, .inr (ciM, [.ref q1, .ref q2, .ref q3, .ref q4, .ref q5, .ref q6, .ref q7, .int 0])), (q1, .inl (k1, 8, .inr (.inl (fun _ => 0)))), (q2, .inl (k2, 160, .inl (fun _ => 0))), (q3, .inl (k3, 4, .inl (fun _ => 0))), (q4, .inl (k4, 80, .inl (fun _ => 0))), (q5, .inl (k5, 80, .inl (fun _ => 0))), (q6, .inl (k6, 80, .inl (fun _ => 0))), (q7, .inl (k7, 80, .inl (fun _ => 0)))] H := hP
  have hD : va_D A [(h0, .inr (ciM, [.ref q1, .ref q2, .ref q3, .ref q4, .ref q5, .ref q6, .ref q7, .int 0])), (q1, .inl (k1, 8, .inr (.inl (fun _ => 0)))), (q2, .inl (k2, 160, .inl (fun _ => 0))), (q3, .inl (k3, 4, .inl (fun _ => 0))), (q4, .inl (k4, 80, .inl (fun _ => 0))), (q5, .inl (k5, 80, .inl (fun _ => 0))), (q6, .inl (k6, 80, .inl (fun _ => 0))), (q7, .inl (k7, 80, .inl (fun _ => 0)))] := hD
  refine W.widen (k := 7) (n := 492) (Nat.le_of_ble_eq_true rfl) (Nat.le_of_ble_eq_true rfl) ?_
  exact W.vret hx hb hr (fun t ht hW => ⟨⟨([(h0, .inr (ciM, [.ref q1, .ref q2, .ref q3, .ref q4, .ref q5, .ref q6, .ref q7, .int 0])), (q1, .inl (k1, 8, .inr (.inl (fun _ => 0)))), (q2, .inl (k2, 160, .inl (fun _ => 0))), (q3, .inl (k3, 4, .inl (fun _ => 0))), (q4, .inl (k4, 80, .inl (fun _ => 0))), (q5, .inl (k5, 80, .inl (fun _ => 0))), (q6, .inl (k6, 80, .inl (fun _ => 0))), (q7, .inl (k7, 80, .inl (fun _ => 0)))], [(k1, .long), (k2, .int), (k3, .boolean), (k4, .int), (k5, .int), (k6, .int), (k7, .int)]), rfl, ⟨fun j => [h0, q1, q2, q3, q4, q5, q6, q7].getD j 0, fun j => [k1, k2, k3, k4, k5, k6, k7].getD j k1, rfl, rfl, rfl⟩, by rw [ht]; exact hP, va_K.moved hW.alike hK, hD⟩, hS.F ht⟩) hS.2.2 dX2_init_60 hlocks
