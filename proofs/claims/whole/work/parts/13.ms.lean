-- the reference: methods over int arrays (laid by wip/whole/gen_ms.py)
theorem inv_lo {f T : Nat → Int32} {i : Nat} {x : Int32} (h : ∀ j, j < i → f j = T j) (hx : x = T i) : ∀ j, j < i + 1 → upd f i x j = T j := fun j hj => by
  by_cases e : j = i
  · subst e; rw [up_s]; exact hx
  · rw [up_n e]; exact h j (by omega)
theorem inv_hi {f g : Nat → Int32} {i : Nat} {x : Int32} (h : ∀ j, i ≤ j → f j = g j) : ∀ j, i + 1 ≤ j → upd f i x j = g j := fun j hj => by
  rw [up_n (by omega)]; exact h j (by omega)
theorem nI_z {a : Nat} (h : a < 2 ^ 31) (e : nI a = 0) : a = 0 := (nI_eq h (by decide)).mp (e.trans nI_0.symm)
theorem isn_fin {X i : Nat} {x1 xi : Int32} {ws : va_W} (hX : X < 10 ^ 80) (ex1 : x1 = (if X % 10 ^ i = 0 then 1 else 0)) (exi : xi = nI i) (c : (80 : Int32) ≤ xi) (h1 : i ≤ 80) : x1 = (if X = 0 then 1 else 0) ∧ ws = ws := by
  have q := nge (M := 80) rfl exi (by decide) c (by omega)
  have q2 : i = 80 := by omega
  subst q2
  rw [Nat.mod_eq_of_lt hX] at ex1
  exact ⟨ex1, rfl⟩
set_option maxHeartbeats 4000000 in
set_option maxRecDepth 100000 in
theorem cM_copy (l : Launch) (D : va_G) {tys : xT} {ws : va_W} {sz : Nat} {k a1 t1 : Nat} {c1 : ClassId} {f : Nat → Int32} (hk : ws[k]? = some (a1, .inl (c1, 80, .inl f))) (ht1 : tys[t1]? = some (c1, .int)) {k2 a2 t2 : Nat} {c2 : ClassId} {g : Nat → Int32} (hk2 : ws[k2]? = some (a2, .inl (c2, 80, .inl g))) (ht2 : tys[t2]? = some (c2, .int)) (hne : k2 ≠ k) : xM l yX2_copy (.code yX2_copy cX2_copy 3 none :: mdT) ({ frames := 0, cells := 0, slots := 0, locals := 0 }) D tys ws sz [.ref a2, .ref a1] (xQv D tys (fun w => ∃ f1, w = ws.set k (a1, .inl (c1, 80, .inl f1)) ∧ ∀ j, j < 80 → f1 j = g j)) 0 0 := by
  refine xb_m (cc := cX2_copy) (maxL := 3) (ret := none) (by decide) rfl (Nat.le_of_ble_eq_true rfl) ?_
  intro p e s m below meth c A ls hx hb hr hml hown hts hlocks hnm hA hP hK hD hS hl
  have hl : lv_has ls 3 [(0, .ref a2), (1, .ref a1)] := hl
  have hown : s.vm.findClass RX2 = some m.cls := hown
  have loop : ∀ (n i : Nat) (xi : Int32) (fi : Nat → Int32)  (ws1 : va_W) (H : Heap) (locs : List Loc) (ls : Array Slot), i ≤ 80 → 80 < i + n → xi = nI i → ws1 = ws.set k (a1, .inl (c1, 80, .inl fi)) → (∀ j, j < i → fi j = g j) → (∀ j, i ≤ j → fi j = f j) → va_P D vwCl ws1 H → va_D A ws1 → va_S A s.heap H locs → lv_has ls 3 [(0, .ref a2), (1, .ref a1), (2, .int xi)] → W p l e ({ frames := 0, cells := 0, slots := 0, locals := 0 }) s m [.ref a2, .ref a1].toArray below meth c H locs 0 0 (MQ below (xQv D tys (fun w => ∃ f1, w = ws.set k (a1, .inl (c1, 80, .inl f1)) ∧ ∀ j, j < 80 → f1 j = g j) A) [.ref a2, .ref a1].toArray s 0 0 A) (F0 m 2 ls []) := by
    intro n
    induction n with
    | zero =>
      intro i xi fi  ws1 H locs ls h1 h2
      omega
    | succ n ih =>
      intro i xi fi  ws1 H locs ls h1 h2 exi hw hA1 hA2  hP hD hS hl
      have hk : ws1[k]? = some (a1, .inl (c1, 80, .inl fi)) := by rw [hw]; exact sgS hk
      have hk2 : ws1[k2]? = some (a2, .inl (c2, 80, .inl g)) := by rw [hw, sgN hne]; exact hk2
      refine lv_iload_n hx hb dX2_copy_2 rfl (lv_at hl 2 rfl) ?_
      refine lv_bipush (v := 80) hx hb dX2_copy_3 (by decide) ?_
      refine lv_icmp_ge (tgt := 20) hx hb dX2_copy_5 (by decide) (fun c5 => ?_) (fun c5 => ?_)
      · exact xb_vr hx hb hr hlocks hP hK hD hS dX2_copy_20 (⟨fi, hw, fun j hj => hA1 j (by have q := nge (M := 80) rfl exi (by decide) c5 (by omega); omega)⟩)
      · have hi8 := nlt (M := 80) rfl exi (by decide) c5 (by omega)
        refine lv_aload_n hx hb dX2_copy_8 rfl (lv_at hl 1 rfl) ?_
        refine lv_iload_n hx hb dX2_copy_9 rfl (lv_at hl 2 rfl) ?_
        refine lv_aload_n hx hb dX2_copy_10 rfl (lv_at hl 0 rfl) ?_
        refine lv_iload_n hx hb dX2_copy_11 rfl (lv_at hl 2 rfl) ?_
        refine ia_ld hx hb hK hP hk2 ht2 exi hi8 (by decide) dX2_copy_12 ?_
        refine ia_st (x := g i) hx hb hK hP hD hS hk ht1 exi hi8 (by decide) dX2_copy_13 (fun ws2 H locs hws2 hP hD hS => ?_)
        have hk : ws2[k]? = some (a1, .inl (c1, 80, .inl (upd fi i (g i)))) := by rw [hws2]; exact sgS hk
        have hk2 : ws2[k2]? = some (a2, .inl (c2, 80, .inl g)) := by rw [hws2, sgN hne]; exact hk2
        refine lv_iinc (v := xi + 1) (lv' := [(2, .int (xi + 1)), (0, .ref a2), (1, .ref a1)]) hx hb dX2_copy_14 hl (k := 2) rfl (by rfl) (by decide) rfl (fun ls hl => ?_)
        refine lv_goto (tgt := 2) hx hb dX2_copy_17 (by decide) ?_
        exact ih (i + 1) (xi + 1) (upd fi i (g i))  ws2 H locs ls (by omega) (by omega) (by rw [exi]; exact nI_1 i) (by rw [hws2, hw, List.set_set]) (inv_lo hA1 (rfl)) (inv_hi hA2)  hP hD hS (lv_sub hl [1, 2, 0] rfl)
  refine lv_iconst (v := 0) hx hb dX2_copy_0 (by decide) ?_
  refine lv_istore_n (lv' := [(2, .int 0), (0, .ref a2), (1, .ref a1)]) hx hb dX2_copy_1 rfl hl (by decide) rfl (fun ls hl => ?_)
  exact loop 81 0 0 f  ws s.heap [] ls (by omega) (by omega) nI_0.symm (set_same hk).symm (fun j hj => absurd hj (by omega)) (fun j _ => rfl)  hP hD hS (lv_sub hl [1, 2, 0] rfl)
set_option maxHeartbeats 4000000 in
set_option maxRecDepth 100000 in
theorem cM_nothing (l : Launch) (D : va_G) {tys : xT} {ws : va_W} {sz : Nat} {k a1 t1 : Nat} {c1 : ClassId} {f : Nat → Int32} (hk : ws[k]? = some (a1, .inl (c1, 80, .inl f))) (ht1 : tys[t1]? = some (c1, .int)) : xM l yX2_nothing (.code yX2_nothing cX2_nothing 2 none :: mdT) ({ frames := 0, cells := 0, slots := 0, locals := 0 }) D tys ws sz [.ref a1] (xQv D tys (fun w => ∃ f1, w = ws.set k (a1, .inl (c1, 80, .inl f1)) ∧ ∀ j, j < 80 → f1 j = 0)) 0 0 := by
  refine xb_m (cc := cX2_nothing) (maxL := 2) (ret := none) (by decide) rfl (Nat.le_of_ble_eq_true rfl) ?_
  intro p e s m below meth c A ls hx hb hr hml hown hts hlocks hnm hA hP hK hD hS hl
  have hl : lv_has ls 2 [(0, .ref a1)] := hl
  have hown : s.vm.findClass RX2 = some m.cls := hown
  have loop : ∀ (n i : Nat) (xi : Int32) (fi : Nat → Int32)  (ws1 : va_W) (H : Heap) (locs : List Loc) (ls : Array Slot), i ≤ 80 → 80 < i + n → xi = nI i → ws1 = ws.set k (a1, .inl (c1, 80, .inl fi)) → (∀ j, j < i → fi j = 0) → (∀ j, i ≤ j → fi j = f j) → va_P D vwCl ws1 H → va_D A ws1 → va_S A s.heap H locs → lv_has ls 2 [(0, .ref a1), (1, .int xi)] → W p l e ({ frames := 0, cells := 0, slots := 0, locals := 0 }) s m [.ref a1].toArray below meth c H locs 0 0 (MQ below (xQv D tys (fun w => ∃ f1, w = ws.set k (a1, .inl (c1, 80, .inl f1)) ∧ ∀ j, j < 80 → f1 j = 0) A) [.ref a1].toArray s 0 0 A) (F0 m 2 ls []) := by
    intro n
    induction n with
    | zero =>
      intro i xi fi  ws1 H locs ls h1 h2
      omega
    | succ n ih =>
      intro i xi fi  ws1 H locs ls h1 h2 exi hw hA1 hA2  hP hD hS hl
      have hk : ws1[k]? = some (a1, .inl (c1, 80, .inl fi)) := by rw [hw]; exact sgS hk
      refine lv_iload_n hx hb dX2_nothing_2 rfl (lv_at hl 1 rfl) ?_
      refine lv_bipush (v := 80) hx hb dX2_nothing_3 (by decide) ?_
      refine lv_icmp_ge (tgt := 18) hx hb dX2_nothing_5 (by decide) (fun c5 => ?_) (fun c5 => ?_)
      · exact xb_vr hx hb hr hlocks hP hK hD hS dX2_nothing_18 (⟨fi, hw, fun j hj => hA1 j (by have q := nge (M := 80) rfl exi (by decide) c5 (by omega); omega)⟩)
      · have hi8 := nlt (M := 80) rfl exi (by decide) c5 (by omega)
        refine lv_aload_n hx hb dX2_nothing_8 rfl (lv_at hl 0 rfl) ?_
        refine lv_iload_n hx hb dX2_nothing_9 rfl (lv_at hl 1 rfl) ?_
        refine lv_iconst (v := 0) hx hb dX2_nothing_10 (by decide) ?_
        refine ia_st (x := 0) hx hb hK hP hD hS hk ht1 exi hi8 (by decide) dX2_nothing_11 (fun ws2 H locs hws2 hP hD hS => ?_)
        have hk : ws2[k]? = some (a1, .inl (c1, 80, .inl (upd fi i 0))) := by rw [hws2]; exact sgS hk
        refine lv_iinc (v := xi + 1) (lv' := [(1, .int (xi + 1)), (0, .ref a1)]) hx hb dX2_nothing_12 hl (k := 1) rfl (by rfl) (by decide) rfl (fun ls hl => ?_)
        refine lv_goto (tgt := 2) hx hb dX2_nothing_15 (by decide) ?_
        exact ih (i + 1) (xi + 1) (upd fi i 0)  ws2 H locs ls (by omega) (by omega) (by rw [exi]; exact nI_1 i) (by rw [hws2, hw, List.set_set]) (inv_lo hA1 (rfl)) (inv_hi hA2)  hP hD hS (lv_sub hl [1, 0] rfl)
  refine lv_iconst (v := 0) hx hb dX2_nothing_0 (by decide) ?_
  refine lv_istore_n (lv' := [(1, .int 0), (0, .ref a1)]) hx hb dX2_nothing_1 rfl hl (by decide) rfl (fun ls hl => ?_)
  exact loop 81 0 0 f  ws s.heap [] ls (by omega) (by omega) nI_0.symm (set_same hk).symm (fun j hj => absurd hj (by omega)) (fun j _ => rfl)  hP hD hS (lv_sub hl [1, 0] rfl)
set_option maxHeartbeats 4000000 in
set_option maxRecDepth 100000 in
theorem cM_plus (l : Launch) (D : va_G) {tys : xT} {ws : va_W} {sz : Nat} {k a1 t1 : Nat} {c1 : ClassId} {f : Nat → Int32} (hk : ws[k]? = some (a1, .inl (c1, 80, .inl f))) (ht1 : tys[t1]? = some (c1, .int)) {k2 a2 t2 : Nat} {c2 : ClassId} {g : Nat → Int32} (hk2 : ws[k2]? = some (a2, .inl (c2, 80, .inl g))) (ht2 : tys[t2]? = some (c2, .int)) {X Y : Nat} (hf : dg f X) (hg : dg g Y) (hne : k2 ≠ k) : xM l yX2_plus (.code yX2_plus cX2_plus 5 none :: mdT) ({ frames := 0, cells := 0, slots := 0, locals := 0 }) D tys ws sz [.ref a1, .ref a2] (xQv D tys (fun w => ∃ f1, w = ws.set k (a1, .inl (c1, 80, .inl f1)) ∧ ∀ j, j < 80 → f1 j = nI ((X + Y) / 10 ^ j % 10))) 0 0 := by
  refine xb_m (cc := cX2_plus) (maxL := 5) (ret := none) (by decide) rfl (Nat.le_of_ble_eq_true rfl) ?_
  intro p e s m below meth c A ls hx hb hr hml hown hts hlocks hnm hA hP hK hD hS hl
  have hl : lv_has ls 5 [(0, .ref a1), (1, .ref a2)] := hl
  have hown : s.vm.findClass RX2 = some m.cls := hown
  have loop : ∀ (n i : Nat) (xi : Int32) (fi : Nat → Int32) (x2 : Int32) (ws1 : va_W) (H : Heap) (locs : List Loc) (ls : Array Slot), i ≤ 80 → 80 < i + n → xi = nI i → ws1 = ws.set k (a1, .inl (c1, 80, .inl fi)) → (∀ j, j < i → fi j = nI ((X + Y) / 10 ^ j % 10)) → (∀ j, i ≤ j → fi j = f j) → x2 = nI (cy X Y i) → va_P D vwCl ws1 H → va_D A ws1 → va_S A s.heap H locs → lv_has ls 5 [(0, .ref a1), (1, .ref a2), (2, .int x2), (3, .int xi)] → W p l e ({ frames := 0, cells := 0, slots := 0, locals := 0 }) s m [.ref a1, .ref a2].toArray below meth c H locs 0 0 (MQ below (xQv D tys (fun w => ∃ f1, w = ws.set k (a1, .inl (c1, 80, .inl f1)) ∧ ∀ j, j < 80 → f1 j = nI ((X + Y) / 10 ^ j % 10)) A) [.ref a1, .ref a2].toArray s 0 0 A) (F0 m 4 ls []) := by
    intro n
    induction n with
    | zero =>
      intro i xi fi x2 ws1 H locs ls h1 h2
      omega
    | succ n ih =>
      intro i xi fi x2 ws1 H locs ls h1 h2 exi hw hA1 hA2 ex2 hP hD hS hl
      have hk : ws1[k]? = some (a1, .inl (c1, 80, .inl fi)) := by rw [hw]; exact sgS hk
      have hk2 : ws1[k2]? = some (a2, .inl (c2, 80, .inl g)) := by rw [hw, sgN hne]; exact hk2
      refine lv_iload_n hx hb dX2_plus_4 rfl (lv_at hl 3 rfl) ?_
      refine lv_bipush (v := 80) hx hb dX2_plus_5 (by decide) ?_
      refine lv_icmp_ge (tgt := 41) hx hb dX2_plus_7 (by decide) (fun c7 => ?_) (fun c7 => ?_)
      · exact xb_vr hx hb hr hlocks hP hK hD hS dX2_plus_41 (⟨fi, hw, fun j hj => hA1 j (by have q := nge (M := 80) rfl exi (by decide) c7 (by omega); omega)⟩)
      · have hi8 := nlt (M := 80) rfl exi (by decide) c7 (by omega)
        have q1 := d9 X i
        have q2 := d9 Y i
        have q3 := cy_le X Y i
        refine lv_aload_n hx hb dX2_plus_10 rfl (lv_at hl 0 rfl) ?_
        refine lv_iload_n hx hb dX2_plus_11 rfl (lv_at hl 3 rfl) ?_
        refine ia_ld hx hb hK hP hk ht1 exi hi8 (by decide) dX2_plus_12 ?_
        refine lv_aload_n hx hb dX2_plus_13 rfl (lv_at hl 1 rfl) ?_
        refine lv_iload_n hx hb dX2_plus_14 rfl (lv_at hl 3 rfl) ?_
        refine ia_ld hx hb hK hP hk2 ht2 exi hi8 (by decide) dX2_plus_15 ?_
        refine lv_iadd hx hb dX2_plus_16 ?_
        refine lv_iload_n hx hb dX2_plus_17 rfl (lv_at hl 2 rfl) ?_
        refine lv_iadd hx hb dX2_plus_18 ?_
        refine lv_topi (fun x19 ex19 => ?_)
        have e19 : x19 = nI (X / 10 ^ i % 10 + Y / 10 ^ i % 10 + cy X Y i) := by rw [ex19, hA2 i (by omega), hf i hi8, hg i hi8, ex2, nI_add, nI_add]
        refine lv_istore (lv' := [(4, .int x19), (0, .ref a1), (1, .ref a2), (2, .int x2), (3, .int xi)]) hx hb dX2_plus_19 hl (by decide) rfl (fun ls hl => ?_)
        refine lv_aload_n hx hb dX2_plus_21 rfl (lv_at hl 1 rfl) ?_
        refine lv_iload_n hx hb dX2_plus_22 rfl (lv_at hl 4 rfl) ?_
        refine lv_iload hx hb dX2_plus_23 (lv_at hl 0 rfl) ?_
        refine lv_bipush (v := 10) hx hb dX2_plus_25 (by decide) ?_
        refine lv_irem hx hb dX2_plus_27 (by decide) ?_
        refine ia_st (x := x19 - x19 / 10 * 10) hx hb hK hP hD hS hk ht1 exi hi8 (by decide) dX2_plus_28 (fun ws2 H locs hws2 hP hD hS => ?_)
        have hk : ws2[k]? = some (a1, .inl (c1, 80, .inl (upd fi i (x19 - x19 / 10 * 10)))) := by rw [hws2]; exact sgS hk
        have hk2 : ws2[k2]? = some (a2, .inl (c2, 80, .inl g)) := by rw [hws2, sgN hne]; exact hk2
        refine lv_iload hx hb dX2_plus_29 (lv_at hl 0 rfl) ?_
        refine lv_bipush (v := 10) hx hb dX2_plus_31 (by decide) ?_
        refine lv_idiv hx hb dX2_plus_33 (by decide) ?_
        refine lv_istore_n (lv' := [(2, .int (x19 / 10)), (4, .int x19), (0, .ref a1), (1, .ref a2), (3, .int xi)]) hx hb dX2_plus_34 rfl hl (by decide) rfl (fun ls hl => ?_)
        refine lv_iinc (v := xi + 1) (lv' := [(3, .int (xi + 1)), (2, .int (x19 / 10)), (4, .int x19), (0, .ref a1), (1, .ref a2)]) hx hb dX2_plus_35 hl (k := 4) rfl (by rfl) (by decide) rfl (fun ls hl => ?_)
        refine lv_goto (tgt := 4) hx hb dX2_plus_38 (by decide) ?_
        exact ih (i + 1) (xi + 1) (upd fi i (x19 - x19 / 10 * 10)) (x19 / 10) ws2 H locs ls (by omega) (by omega) (by rw [exi]; exact nI_1 i) (by rw [hws2, hw, List.set_set]) (inv_lo hA1 (by rw [e19, show (10 : Int32) = nI 10 from rfl, pk_rem (by omega) (by decide) (by decide), cy_dig])) (inv_hi hA2) (by rw [e19, show (10 : Int32) = nI 10 from rfl, pk_div (by omega) (by decide) (by decide), cy_succ]) hP hD hS (lv_sub hl [3, 4, 1, 0] rfl)
  refine lv_iconst (v := 0) hx hb dX2_plus_0 (by decide) ?_
  refine lv_istore_n (lv' := [(2, .int 0), (0, .ref a1), (1, .ref a2)]) hx hb dX2_plus_1 rfl hl (by decide) rfl (fun ls hl => ?_)
  refine lv_iconst (v := 0) hx hb dX2_plus_2 (by decide) ?_
  refine lv_istore_n (lv' := [(3, .int 0), (2, .int 0), (0, .ref a1), (1, .ref a2)]) hx hb dX2_plus_3 rfl hl (by decide) rfl (fun ls hl => ?_)
  exact loop 81 0 0 f 0 ws s.heap [] ls (by omega) (by omega) nI_0.symm (set_same hk).symm (fun j hj => absurd hj (by omega)) (fun j _ => rfl) (by rw [cy_0]; rfl) hP hD hS (lv_sub hl [2, 3, 1, 0] rfl)
set_option maxHeartbeats 4000000 in
set_option maxRecDepth 100000 in
theorem cM_minus (l : Launch) (D : va_G) {tys : xT} {ws : va_W} {sz : Nat} {k a1 t1 : Nat} {c1 : ClassId} {f : Nat → Int32} (hk : ws[k]? = some (a1, .inl (c1, 80, .inl f))) (ht1 : tys[t1]? = some (c1, .int)) {k2 a2 t2 : Nat} {c2 : ClassId} {g : Nat → Int32} (hk2 : ws[k2]? = some (a2, .inl (c2, 80, .inl g))) (ht2 : tys[t2]? = some (c2, .int)) {X Y : Nat} (hf : dg f X) (hg : dg g Y) (hXY : Y ≤ X) (hne : k2 ≠ k) : xM l yX2_minus (.code yX2_minus cX2_minus 5 none :: mdT) ({ frames := 0, cells := 0, slots := 0, locals := 0 }) D tys ws sz [.ref a1, .ref a2] (xQv D tys (fun w => ∃ f1, w = ws.set k (a1, .inl (c1, 80, .inl f1)) ∧ ∀ j, j < 80 → f1 j = nI ((X - Y) / 10 ^ j % 10))) 0 0 := by
  refine xb_m (cc := cX2_minus) (maxL := 5) (ret := none) (by decide) rfl (Nat.le_of_ble_eq_true rfl) ?_
  intro p e s m below meth c A ls hx hb hr hml hown hts hlocks hnm hA hP hK hD hS hl
  have hl : lv_has ls 5 [(0, .ref a1), (1, .ref a2)] := hl
  have hown : s.vm.findClass RX2 = some m.cls := hown
  have loop : ∀ (n i : Nat) (xi : Int32) (fi : Nat → Int32) (x2 : Int32) (ws1 : va_W) (H : Heap) (locs : List Loc) (ls : Array Slot), i ≤ 80 → 80 < i + n → xi = nI i → ws1 = ws.set k (a1, .inl (c1, 80, .inl fi)) → (∀ j, j < i → fi j = nI ((X - Y) / 10 ^ j % 10)) → (∀ j, i ≤ j → fi j = f j) → x2 = nI (bw X Y i) → va_P D vwCl ws1 H → va_D A ws1 → va_S A s.heap H locs → lv_has ls 5 [(0, .ref a1), (1, .ref a2), (2, .int x2), (3, .int xi)] → W p l e ({ frames := 0, cells := 0, slots := 0, locals := 0 }) s m [.ref a1, .ref a2].toArray below meth c H locs 0 0 (MQ below (xQv D tys (fun w => ∃ f1, w = ws.set k (a1, .inl (c1, 80, .inl f1)) ∧ ∀ j, j < 80 → f1 j = nI ((X - Y) / 10 ^ j % 10)) A) [.ref a1, .ref a2].toArray s 0 0 A) (F0 m 4 ls []) := by
    intro n
    induction n with
    | zero =>
      intro i xi fi x2 ws1 H locs ls h1 h2
      omega
    | succ n ih =>
      intro i xi fi x2 ws1 H locs ls h1 h2 exi hw hA1 hA2 ex2 hP hD hS hl
      have hk : ws1[k]? = some (a1, .inl (c1, 80, .inl fi)) := by rw [hw]; exact sgS hk
      have hk2 : ws1[k2]? = some (a2, .inl (c2, 80, .inl g)) := by rw [hw, sgN hne]; exact hk2
      refine lv_iload_n hx hb dX2_minus_4 rfl (lv_at hl 3 rfl) ?_
      refine lv_bipush (v := 80) hx hb dX2_minus_5 (by decide) ?_
      refine lv_icmp_ge (tgt := 56) hx hb dX2_minus_7 (by decide) (fun c7 => ?_) (fun c7 => ?_)
      · exact xb_vr hx hb hr hlocks hP hK hD hS dX2_minus_56 (⟨fi, hw, fun j hj => hA1 j (by have q := nge (M := 80) rfl exi (by decide) c7 (by omega); omega)⟩)
      · have hi8 := nlt (M := 80) rfl exi (by decide) c7 (by omega)
        have q1 := d9 X i
        have q2 := d9 Y i
        have q3 := bw_le X Y i
        refine lv_aload_n hx hb dX2_minus_10 rfl (lv_at hl 0 rfl) ?_
        refine lv_iload_n hx hb dX2_minus_11 rfl (lv_at hl 3 rfl) ?_
        refine ia_ld hx hb hK hP hk ht1 exi hi8 (by decide) dX2_minus_12 ?_
        refine lv_aload_n hx hb dX2_minus_13 rfl (lv_at hl 1 rfl) ?_
        refine lv_iload_n hx hb dX2_minus_14 rfl (lv_at hl 3 rfl) ?_
        refine ia_ld hx hb hK hP hk2 ht2 exi hi8 (by decide) dX2_minus_15 ?_
        refine lv_isub hx hb dX2_minus_16 ?_
        refine lv_iload_n hx hb dX2_minus_17 rfl (lv_at hl 2 rfl) ?_
        refine lv_isub hx hb dX2_minus_18 ?_
        refine lv_topi (fun x19 ex19 => ?_)
        have e19 : x19 = nI (X / 10 ^ i % 10) - nI (Y / 10 ^ i % 10) - nI (bw X Y i) := by rw [ex19, hA2 i (by omega), hf i hi8, hg i hi8, ex2]
        obtain ⟨g1, g2, g3⟩ := sb10 _ q1 _ q2 _ (show bw X Y i < 2 by omega)
        rw [← e19] at g1 g2 g3
        obtain ⟨s1, s2⟩ := bw_step hXY i
        refine lv_istore (lv' := [(4, .int x19), (0, .ref a1), (1, .ref a2), (2, .int x2), (3, .int xi)]) hx hb dX2_minus_19 hl (by decide) rfl (fun ls hl => ?_)
        refine lv_aload_n hx hb dX2_minus_21 rfl (lv_at hl 1 rfl) ?_
        refine lv_iload_n hx hb dX2_minus_22 rfl (lv_at hl 4 rfl) ?_
        refine lv_iload hx hb dX2_minus_23 (lv_at hl 0 rfl) ?_
        refine lv_if_ge (tgt := 36) hx hb dX2_minus_25 (by decide) (fun c25 => ?_) (fun c25 => ?_)
        · refine lv_iload hx hb dX2_minus_36 (lv_at hl 0 rfl) ?_
          refine ia_st (x := x19) hx hb hK hP hD hS hk ht1 exi hi8 (by decide) dX2_minus_38 (fun ws2 H locs hws2 hP hD hS => ?_)
          have hk : ws2[k]? = some (a1, .inl (c1, 80, .inl (upd fi i x19))) := by rw [hws2]; exact sgS hk
          have hk2 : ws2[k2]? = some (a2, .inl (c2, 80, .inl g)) := by rw [hws2, sgN hne]; exact hk2
          refine lv_iload hx hb dX2_minus_39 (lv_at hl 0 rfl) ?_
          refine lv_if_ge (tgt := 48) hx hb dX2_minus_41 (by decide) (fun c41 => ?_) (fun c41 => ?_)
          · refine lv_iconst (v := 0) hx hb dX2_minus_48 (by decide) ?_
            refine lv_istore_n (lv' := [(2, .int 0), (4, .int x19), (0, .ref a1), (1, .ref a2), (3, .int xi)]) hx hb dX2_minus_49 rfl hl (by decide) rfl (fun ls hl => ?_)
            refine lv_iinc (v := xi + 1) (lv' := [(3, .int (xi + 1)), (2, .int 0), (4, .int x19), (0, .ref a1), (1, .ref a2)]) hx hb dX2_minus_50 hl (k := 4) rfl (by rfl) (by decide) rfl (fun ls hl => ?_)
            refine lv_goto (tgt := 4) hx hb dX2_minus_53 (by decide) ?_
            exact ih (i + 1) (xi + 1) (upd fi i x19) 0 ws2 H locs ls (by omega) (by omega) (by rw [exi]; exact nI_1 i) (by rw [hws2, hw, List.set_set]) (inv_lo hA1 (by rw [g3 (g1.mp c25), (s2 (g1.mp c25)).1])) (inv_hi hA2) (by rw [(s2 (g1.mp c25)).2]; rfl) hP hD hS (lv_sub hl [3, 4, 1, 0] rfl)
          · exact absurd c25 c41
        · refine lv_iload hx hb dX2_minus_28 (lv_at hl 0 rfl) ?_
          refine lv_bipush (v := 10) hx hb dX2_minus_30 (by decide) ?_
          refine lv_iadd hx hb dX2_minus_32 ?_
          refine lv_goto (tgt := 38) hx hb dX2_minus_33 (by decide) ?_
          refine ia_st (x := x19 + 10) hx hb hK hP hD hS hk ht1 exi hi8 (by decide) dX2_minus_38 (fun ws2 H locs hws2 hP hD hS => ?_)
          have hk : ws2[k]? = some (a1, .inl (c1, 80, .inl (upd fi i (x19 + 10)))) := by rw [hws2]; exact sgS hk
          have hk2 : ws2[k2]? = some (a2, .inl (c2, 80, .inl g)) := by rw [hws2, sgN hne]; exact hk2
          refine lv_iload hx hb dX2_minus_39 (lv_at hl 0 rfl) ?_
          refine lv_if_ge (tgt := 48) hx hb dX2_minus_41 (by decide) (fun c41 => ?_) (fun c41 => ?_)
          · exact absurd c41 c25
          · refine lv_iconst (v := 1) hx hb dX2_minus_44 (by decide) ?_
            refine lv_goto (tgt := 49) hx hb dX2_minus_45 (by decide) ?_
            refine lv_istore_n (lv' := [(2, .int 1), (4, .int x19), (0, .ref a1), (1, .ref a2), (3, .int xi)]) hx hb dX2_minus_49 rfl hl (by decide) rfl (fun ls hl => ?_)
            refine lv_iinc (v := xi + 1) (lv' := [(3, .int (xi + 1)), (2, .int 1), (4, .int x19), (0, .ref a1), (1, .ref a2)]) hx hb dX2_minus_50 hl (k := 4) rfl (by rfl) (by decide) rfl (fun ls hl => ?_)
            refine lv_goto (tgt := 4) hx hb dX2_minus_53 (by decide) ?_
            exact ih (i + 1) (xi + 1) (upd fi i (x19 + 10)) 1 ws2 H locs ls (by omega) (by omega) (by rw [exi]; exact nI_1 i) (by rw [hws2, hw, List.set_set]) (inv_lo hA1 (by rw [g2 (Nat.lt_of_not_le (fun q => c25 (g1.mpr q))), (s1 (Nat.lt_of_not_le (fun q => c25 (g1.mpr q)))).1])) (inv_hi hA2) (by rw [(s1 (Nat.lt_of_not_le (fun q => c25 (g1.mpr q)))).2]; rfl) hP hD hS (lv_sub hl [3, 4, 1, 0] rfl)
  refine lv_iconst (v := 0) hx hb dX2_minus_0 (by decide) ?_
  refine lv_istore_n (lv' := [(2, .int 0), (0, .ref a1), (1, .ref a2)]) hx hb dX2_minus_1 rfl hl (by decide) rfl (fun ls hl => ?_)
  refine lv_iconst (v := 0) hx hb dX2_minus_2 (by decide) ?_
  refine lv_istore_n (lv' := [(3, .int 0), (2, .int 0), (0, .ref a1), (1, .ref a2)]) hx hb dX2_minus_3 rfl hl (by decide) rfl (fun ls hl => ?_)
  exact loop 81 0 0 f 0 ws s.heap [] ls (by omega) (by omega) nI_0.symm (set_same hk).symm (fun j hj => absurd hj (by omega)) (fun j _ => rfl) (by rw [bw_0]; rfl) hP hD hS (lv_sub hl [2, 3, 1, 0] rfl)
set_option maxHeartbeats 4000000 in
set_option maxRecDepth 100000 in
theorem cM_write (l : Launch) (D : va_G) {tys : xT} {ws : va_W} {sz : Nat} {k a1 t1 : Nat} {c1 : ClassId} {f : Nat → Int32} (hk : ws[k]? = some (a1, .inl (c1, 80, .inl f))) (ht1 : tys[t1]? = some (c1, .int)) (v : Int64) : xM l yX2_write (.code yX2_write cX2_write 7 none :: mdT) ({ frames := 0, cells := 0, slots := 0, locals := 0 }) D tys ws sz [.long v, .ref a1] (xQv D tys (fun w => ∃ f1, w = ws.set k (a1, .inl (c1, 80, .inl f1)) ∧ ∀ j, j < 80 → f1 j = nI (v.toInt.natAbs / 10 ^ j % 10))) 0 0 := by
  refine xb_m (cc := cX2_write) (maxL := 7) (ret := none) (by decide) rfl (Nat.le_of_ble_eq_true rfl) ?_
  intro p e s m below meth c A ls hx hb hr hml hown hts hlocks hnm hA hP hK hD hS hl
  have hl : lv_has ls 7 [(0, .long v), (2, .ref a1)] := hl
  have hown : s.vm.findClass RX2 = some m.cls := hown
  have loop : ∀ (n i : Nat) (xi : Int32) (fi : Nat → Int32) (x3 : Int64) (ws1 : va_W) (H : Heap) (locs : List Loc) (ls : Array Slot), i ≤ 80 → 80 < i + n → xi = nI i → ws1 = ws.set k (a1, .inl (c1, 80, .inl fi)) → (∀ j, j < i → fi j = nI (v.toInt.natAbs / 10 ^ j % 10)) → (∀ j, i ≤ j → fi j = f j) → x3.toInt = v.toInt.tdiv ((10 ^ i : Nat) : Int) → va_P D vwCl ws1 H → va_D A ws1 → va_S A s.heap H locs → lv_has ls 7 [(2, .ref a1), (3, .long x3), (5, .int xi)] → W p l e ({ frames := 0, cells := 0, slots := 0, locals := 0 }) s m [.long v, .ref a1].toArray below meth c H locs 0 0 (MQ below (xQv D tys (fun w => ∃ f1, w = ws.set k (a1, .inl (c1, 80, .inl f1)) ∧ ∀ j, j < 80 → f1 j = nI (v.toInt.natAbs / 10 ^ j % 10)) A) [.long v, .ref a1].toArray s 0 0 A) (F0 m 5 ls []) := by
    intro n
    induction n with
    | zero =>
      intro i xi fi x3 ws1 H locs ls h1 h2
      omega
    | succ n ih =>
      intro i xi fi x3 ws1 H locs ls h1 h2 exi hw hA1 hA2 ex3 hP hD hS hl
      have hk : ws1[k]? = some (a1, .inl (c1, 80, .inl fi)) := by rw [hw]; exact sgS hk
      refine lv_iload hx hb dX2_write_5 (lv_at hl 2 rfl) ?_
      refine lv_bipush (v := 80) hx hb dX2_write_7 (by decide) ?_
      refine lv_icmp_ge (tgt := 49) hx hb dX2_write_9 (by decide) (fun c9 => ?_) (fun c9 => ?_)
      · exact xb_vr hx hb hr hlocks hP hK hD hS dX2_write_49 (⟨fi, hw, fun j hj => hA1 j (by have q := nge (M := 80) rfl exi (by decide) c9 (by omega); omega)⟩)
      · have hi8 := nlt (M := 80) rfl exi (by decide) c9 (by omega)
        refine lv_lload_n hx hb dX2_write_12 rfl (lv_at hl 1 rfl) ?_
        refine lv_ldc2 (v := 10) hx hb hown (hts _ (inT mw_18)) dX2_write_13 ?_
        refine lv_lrem hx hb dX2_write_16 (by decide) ?_
        refine lv_l2i hx hb dX2_write_17 rfl ?_
        refine lv_topi (fun x18 ex18 => ?_)
        have e18 : x18 = (Int64.ofInt ((v.toInt.tdiv ((10 ^ i : Nat) : Int)).tmod 10)).toInt32 := by rw [ex18, (lr10 x3).1, ex3]
        have e0 := dig_l (z := v.toInt.tdiv ((10 ^ i : Nat) : Int)) (by rw [← ex3]; exact un_lo x3) (by rw [← ex3]; exact un_hi x3)
        rw [← e18, td_abs] at e0
        refine lv_istore (lv' := [(6, .int x18), (2, .ref a1), (3, .long x3), (5, .int xi)]) hx hb dX2_write_18 hl (by decide) rfl (fun ls hl => ?_)
        refine lv_aload_n hx hb dX2_write_20 rfl (lv_at hl 1 rfl) ?_
        refine lv_iload hx hb dX2_write_21 (lv_at hl 3 rfl) ?_
        refine lv_iload hx hb dX2_write_23 (lv_at hl 0 rfl) ?_
        refine lv_if_ge (tgt := 34) hx hb dX2_write_25 (by decide) (fun c25 => ?_) (fun c25 => ?_)
        · refine lv_iload hx hb dX2_write_34 (lv_at hl 0 rfl) ?_
          refine ia_st (x := x18) hx hb hK hP hD hS hk ht1 exi hi8 (by decide) dX2_write_36 (fun ws2 H locs hws2 hP hD hS => ?_)
          have hk : ws2[k]? = some (a1, .inl (c1, 80, .inl (upd fi i x18))) := by rw [hws2]; exact sgS hk
          refine lv_lload_n hx hb dX2_write_37 rfl (lv_at hl 2 rfl) ?_
          refine lv_ldc2 (v := 10) hx hb hown (hts _ (inT mw_18)) dX2_write_38 ?_
          refine lv_ldiv hx hb dX2_write_41 (by decide) ?_
          refine lv_lstore_n (lv' := [(3, .long (x3 / 10)), (6, .int x18), (2, .ref a1), (5, .int xi)]) hx hb dX2_write_42 rfl hl (by decide) rfl (fun ls hl => ?_)
          refine lv_iinc (v := xi + 1) (lv' := [(5, .int (xi + 1)), (3, .long (x3 / 10)), (6, .int x18), (2, .ref a1)]) hx hb dX2_write_43 hl (k := 3) rfl (by rfl) (by decide) rfl (fun ls hl => ?_)
          refine lv_goto (tgt := 5) hx hb dX2_write_46 (by decide) ?_
          exact ih (i + 1) (xi + 1) (upd fi i x18) (x3 / 10) ws2 H locs ls (by omega) (by omega) (by rw [exi]; exact nI_1 i) (by rw [hws2, hw, List.set_set]) (inv_lo hA1 (by rw [← e0, if_pos c25])) (inv_hi hA2) (by rw [Int64.toInt_div_of_ne_right _ _ (by decide), ex3, show (10 : Int64).toInt = 10 from rfl]; exact td_succ _ _) hP hD hS (lv_sub hl [3, 1, 0] rfl)
        · refine lv_iload hx hb dX2_write_28 (lv_at hl 0 rfl) ?_
          refine lv_ineg hx hb dX2_write_30 ?_
          refine lv_goto (tgt := 36) hx hb dX2_write_31 (by decide) ?_
          refine ia_st (x := -x18) hx hb hK hP hD hS hk ht1 exi hi8 (by decide) dX2_write_36 (fun ws2 H locs hws2 hP hD hS => ?_)
          have hk : ws2[k]? = some (a1, .inl (c1, 80, .inl (upd fi i (-x18)))) := by rw [hws2]; exact sgS hk
          refine lv_lload_n hx hb dX2_write_37 rfl (lv_at hl 2 rfl) ?_
          refine lv_ldc2 (v := 10) hx hb hown (hts _ (inT mw_18)) dX2_write_38 ?_
          refine lv_ldiv hx hb dX2_write_41 (by decide) ?_
          refine lv_lstore_n (lv' := [(3, .long (x3 / 10)), (6, .int x18), (2, .ref a1), (5, .int xi)]) hx hb dX2_write_42 rfl hl (by decide) rfl (fun ls hl => ?_)
          refine lv_iinc (v := xi + 1) (lv' := [(5, .int (xi + 1)), (3, .long (x3 / 10)), (6, .int x18), (2, .ref a1)]) hx hb dX2_write_43 hl (k := 3) rfl (by rfl) (by decide) rfl (fun ls hl => ?_)
          refine lv_goto (tgt := 5) hx hb dX2_write_46 (by decide) ?_
          exact ih (i + 1) (xi + 1) (upd fi i (-x18)) (x3 / 10) ws2 H locs ls (by omega) (by omega) (by rw [exi]; exact nI_1 i) (by rw [hws2, hw, List.set_set]) (inv_lo hA1 (by rw [← e0, if_neg c25])) (inv_hi hA2) (by rw [Int64.toInt_div_of_ne_right _ _ (by decide), ex3, show (10 : Int64).toInt = 10 from rfl]; exact td_succ _ _) hP hD hS (lv_sub hl [3, 1, 0] rfl)
  refine lv_lload_n hx hb dX2_write_0 rfl (lv_at hl 0 rfl) ?_
  refine lv_lstore_n (lv' := [(3, .long v), (0, .long v), (2, .ref a1)]) hx hb dX2_write_1 rfl hl (by decide) rfl (fun ls hl => ?_)
  refine lv_iconst (v := 0) hx hb dX2_write_2 (by decide) ?_
  refine lv_istore (lv' := [(5, .int 0), (3, .long v), (0, .long v), (2, .ref a1)]) hx hb dX2_write_3 hl (by decide) rfl (fun ls hl => ?_)
  exact loop 81 0 0 f v ws s.heap [] ls (by omega) (by omega) nI_0.symm (set_same hk).symm (fun j hj => absurd hj (by omega)) (fun j _ => rfl) (td_0 _).symm hP hD hS (lv_sub hl [3, 1, 0] rfl)
set_option maxHeartbeats 4000000 in
set_option maxRecDepth 100000 in
theorem cM_cmps (l : Launch) (D : va_G) {tys : xT} {ws : va_W} {sz : Nat} {k a1 t1 : Nat} {c1 : ClassId} {f : Nat → Int32} (hk : ws[k]? = some (a1, .inl (c1, 80, .inl f))) (ht1 : tys[t1]? = some (c1, .int)) {k2 a2 t2 : Nat} {c2 : ClassId} {g : Nat → Int32} (hk2 : ws[k2]? = some (a2, .inl (c2, 80, .inl g))) (ht2 : tys[t2]? = some (c2, .int)) {X Y : Nat} (hf : dg f X) (hg : dg g Y) (hX : X < 10 ^ 80) (hY : Y < 10 ^ 80) : xM l yX2_compareSizes (.code yX2_compareSizes cX2_compareSizes 4 (some .int) :: mdT) ({ frames := 0, cells := 0, slots := 0, locals := 0 }) D tys ws sz [.ref a1, .ref a2] (xQi D tys (fun r w => r = sp_ord (X : Int) (Y : Int) ∧ ws = w)) 0 0 := by
  refine xb_m (cc := cX2_compareSizes) (maxL := 4) (ret := (some .int)) (by decide) rfl (Nat.le_of_ble_eq_true rfl) ?_
  intro p e s m below meth c A ls hx hb hr hml hown hts hlocks hnm hA hP hK hD hS hl
  have hl : lv_has ls 4 [(0, .ref a1), (1, .ref a2)] := hl
  have hown : s.vm.findClass RX2 = some m.cls := hown
  have loop : ∀ (n i : Nat) (xi : Int32) (x2 : Int32) (ls : Array Slot), i ≤ 80 → 80 < i + n → xi = nI i → x2 = sp_ord ((X % 10 ^ i : Nat) : Int) ((Y % 10 ^ i : Nat) : Int) → lv_has ls 4 [(0, .ref a1), (1, .ref a2), (2, .int x2), (3, .int xi)] → W p l e ({ frames := 0, cells := 0, slots := 0, locals := 0 }) s m [.ref a1, .ref a2].toArray below meth c s.heap [] 0 0 (MQ below (xQi D tys (fun r w => r = sp_ord (X : Int) (Y : Int) ∧ ws = w) A) [.ref a1, .ref a2].toArray s 0 0 A) (F0 m 4 ls []) := by
    intro n
    induction n with
    | zero =>
      intro i xi x2 ls h1 h2
      omega
    | succ n ih =>
      intro i xi x2 ls h1 h2 exi ex2 hl
      refine lv_iload_n hx hb dX2_compareSizes_4 rfl (lv_at hl 3 rfl) ?_
      refine lv_bipush (v := 80) hx hb dX2_compareSizes_5 (by decide) ?_
      refine lv_icmp_ge (tgt := 44) hx hb dX2_compareSizes_7 (by decide) (fun c7 => ?_) (fun c7 => ?_)
      · refine lv_iload_n hx hb dX2_compareSizes_44 rfl (lv_at hl 2 rfl) ?_
        exact xb_ir hx hb hr hlocks hP hK hD hS dX2_compareSizes_45 (⟨by have q := nge (M := 80) rfl exi (by decide) c7 (by omega); have q2 : i = 80 := (by omega); subst q2; rw [Nat.mod_eq_of_lt hX, Nat.mod_eq_of_lt hY] at ex2; exact ex2, rfl⟩)
      · have hi8 := nlt (M := 80) rfl exi (by decide) c7 (by omega)
        have q1 := d9 X i
        have q2 := d9 Y i
        refine lv_aload_n hx hb dX2_compareSizes_10 rfl (lv_at hl 0 rfl) ?_
        refine lv_iload_n hx hb dX2_compareSizes_11 rfl (lv_at hl 3 rfl) ?_
        refine ia_ld hx hb hK hP hk ht1 exi hi8 (by decide) dX2_compareSizes_12 ?_
        refine lv_aload_n hx hb dX2_compareSizes_13 rfl (lv_at hl 1 rfl) ?_
        refine lv_iload_n hx hb dX2_compareSizes_14 rfl (lv_at hl 3 rfl) ?_
        refine ia_ld hx hb hK hP hk2 ht2 exi hi8 (by decide) dX2_compareSizes_15 ?_
        refine lv_icmp_ge (tgt := 23) hx hb dX2_compareSizes_16 (by decide) (fun c16 => ?_) (fun c16 => ?_)
        · refine lv_aload_n hx hb dX2_compareSizes_23 rfl (lv_at hl 0 rfl) ?_
          refine lv_iload_n hx hb dX2_compareSizes_24 rfl (lv_at hl 3 rfl) ?_
          refine ia_ld hx hb hK hP hk ht1 exi hi8 (by decide) dX2_compareSizes_25 ?_
          refine lv_aload_n hx hb dX2_compareSizes_26 rfl (lv_at hl 1 rfl) ?_
          refine lv_iload_n hx hb dX2_compareSizes_27 rfl (lv_at hl 3 rfl) ?_
          refine ia_ld hx hb hK hP hk2 ht2 exi hi8 (by decide) dX2_compareSizes_28 ?_
          refine lv_icmp_le (tgt := 36) hx hb dX2_compareSizes_29 (by decide) (fun c29 => ?_) (fun c29 => ?_)
          · refine lv_iload_n hx hb dX2_compareSizes_36 rfl (lv_at hl 2 rfl) ?_
            refine lv_istore_n (lv' := [(2, .int x2), (0, .ref a1), (1, .ref a2), (3, .int xi)]) hx hb dX2_compareSizes_37 rfl hl (by decide) rfl (fun ls hl => ?_)
            refine lv_iinc (v := xi + 1) (lv' := [(3, .int (xi + 1)), (2, .int x2), (0, .ref a1), (1, .ref a2)]) hx hb dX2_compareSizes_38 hl (k := 3) rfl (by rfl) (by decide) rfl (fun ls hl => ?_)
            refine lv_goto (tgt := 4) hx hb dX2_compareSizes_41 (by decide) ?_
            exact ih (i + 1) (xi + 1) x2 ls (by omega) (by omega) (by rw [exi]; exact nI_1 i) (by rw [hf i hi8, hg i hi8, nI_lt10 q1 q2] at c16; rw [hf i hi8, hg i hi8, nI_lt10 q2 q1] at c29; rw [od_step, if_neg (by omega), if_neg (by omega)]; exact ex2) (lv_sub hl [2, 3, 1, 0] rfl)
          · refine lv_iconst (v := 1) hx hb dX2_compareSizes_32 (by decide) ?_
            refine lv_goto (tgt := 37) hx hb dX2_compareSizes_33 (by decide) ?_
            refine lv_istore_n (lv' := [(2, .int 1), (0, .ref a1), (1, .ref a2), (3, .int xi)]) hx hb dX2_compareSizes_37 rfl hl (by decide) rfl (fun ls hl => ?_)
            refine lv_iinc (v := xi + 1) (lv' := [(3, .int (xi + 1)), (2, .int 1), (0, .ref a1), (1, .ref a2)]) hx hb dX2_compareSizes_38 hl (k := 3) rfl (by rfl) (by decide) rfl (fun ls hl => ?_)
            refine lv_goto (tgt := 4) hx hb dX2_compareSizes_41 (by decide) ?_
            exact ih (i + 1) (xi + 1) 1 ls (by omega) (by omega) (by rw [exi]; exact nI_1 i) (by rw [hf i hi8, hg i hi8, nI_lt10 q1 q2] at c16; rw [hf i hi8, hg i hi8, nI_lt10 q2 q1] at c29; rw [od_step, if_neg (by omega), if_pos (by omega)]) (lv_sub hl [2, 3, 1, 0] rfl)
        · refine lv_iconst (v := (-1)) hx hb dX2_compareSizes_19 (by decide) ?_
          refine lv_goto (tgt := 37) hx hb dX2_compareSizes_20 (by decide) ?_
          refine lv_istore_n (lv' := [(2, .int (-1)), (0, .ref a1), (1, .ref a2), (3, .int xi)]) hx hb dX2_compareSizes_37 rfl hl (by decide) rfl (fun ls hl => ?_)
          refine lv_iinc (v := xi + 1) (lv' := [(3, .int (xi + 1)), (2, .int (-1)), (0, .ref a1), (1, .ref a2)]) hx hb dX2_compareSizes_38 hl (k := 3) rfl (by rfl) (by decide) rfl (fun ls hl => ?_)
          refine lv_goto (tgt := 4) hx hb dX2_compareSizes_41 (by decide) ?_
          exact ih (i + 1) (xi + 1) (-1) ls (by omega) (by omega) (by rw [exi]; exact nI_1 i) (by rw [hf i hi8, hg i hi8, nI_lt10 q1 q2] at c16; rw [od_step, if_pos (by omega)]) (lv_sub hl [2, 3, 1, 0] rfl)
  refine lv_iconst (v := 0) hx hb dX2_compareSizes_0 (by decide) ?_
  refine lv_istore_n (lv' := [(2, .int 0), (0, .ref a1), (1, .ref a2)]) hx hb dX2_compareSizes_1 rfl hl (by decide) rfl (fun ls hl => ?_)
  refine lv_iconst (v := 0) hx hb dX2_compareSizes_2 (by decide) ?_
  refine lv_istore_n (lv' := [(3, .int 0), (2, .int 0), (0, .ref a1), (1, .ref a2)]) hx hb dX2_compareSizes_3 rfl hl (by decide) rfl (fun ls hl => ?_)
  exact loop 81 0 0 0 ls (by omega) (by omega) nI_0.symm (od_0 X Y).symm (lv_sub hl [2, 3, 1, 0] rfl)
set_option maxHeartbeats 4000000 in
set_option maxRecDepth 100000 in
theorem cM_isn (l : Launch) (D : va_G) {tys : xT} {ws : va_W} {sz : Nat} {k a1 t1 : Nat} {c1 : ClassId} {f : Nat → Int32} (hk : ws[k]? = some (a1, .inl (c1, 80, .inl f))) (ht1 : tys[t1]? = some (c1, .int)) {X : Nat} (hf : dg f X) (hX : X < 10 ^ 80) : xM l yX2_isNothing (.code yX2_isNothing cX2_isNothing 3 (some .boolean) :: mdT) ({ frames := 0, cells := 0, slots := 0, locals := 0 }) D tys ws sz [.ref a1] (xQi D tys (fun r w => r = (if X = 0 then 1 else 0) ∧ ws = w)) 0 0 := by
  refine xb_m (cc := cX2_isNothing) (maxL := 3) (ret := (some .boolean)) (by decide) rfl (Nat.le_of_ble_eq_true rfl) ?_
  intro p e s m below meth c A ls hx hb hr hml hown hts hlocks hnm hA hP hK hD hS hl
  have hl : lv_has ls 3 [(0, .ref a1)] := hl
  have hown : s.vm.findClass RX2 = some m.cls := hown
  have loop : ∀ (n i : Nat) (xi : Int32) (x1 : Int32) (ls : Array Slot), i ≤ 80 → 80 < i + n → xi = nI i → x1 = (if X % 10 ^ i = 0 then 1 else 0) → lv_has ls 3 [(0, .ref a1), (1, .int x1), (2, .int xi)] → W p l e ({ frames := 0, cells := 0, slots := 0, locals := 0 }) s m [.ref a1].toArray below meth c s.heap [] 0 0 (MQ below (xQi D tys (fun r w => r = (if X = 0 then 1 else 0) ∧ ws = w) A) [.ref a1].toArray s 0 0 A) (F0 m 4 ls []) := by
    intro n
    induction n with
    | zero =>
      intro i xi x1 ls h1 h2
      omega
    | succ n ih =>
      intro i xi x1 ls h1 h2 exi ex1 hl
      refine lv_iload_n hx hb dX2_isNothing_4 rfl (lv_at hl 2 rfl) ?_
      refine lv_bipush (v := 80) hx hb dX2_isNothing_5 (by decide) ?_
      refine lv_icmp_ge (tgt := 32) hx hb dX2_isNothing_7 (by decide) (fun c7 => ?_) (fun c7 => ?_)
      · refine lv_iload_n hx hb dX2_isNothing_32 rfl (lv_at hl 1 rfl) ?_
        exact xb_zr hx hb hr hlocks hP hK hD hS dX2_isNothing_33 (by rw [ex1]; split <;> rfl) (isn_fin hX ex1 exi c7 h1)
      · have hi8 := nlt (M := 80) rfl exi (by decide) c7 (by omega)
        have q1 := d9 X i
        refine lv_iload_n hx hb dX2_isNothing_10 rfl (lv_at hl 1 rfl) ?_
        refine lv_if_eq (tgt := 24) hx hb dX2_isNothing_11 (by decide) (fun c11 => ?_) (fun c11 => ?_)
        · have c11 := bz_0 ex1 c11
          refine lv_iconst (v := 0) hx hb dX2_isNothing_24 (by decide) ?_
          refine lv_istore_n (lv' := [(1, .int 0), (0, .ref a1), (2, .int xi)]) hx hb dX2_isNothing_25 rfl hl (by decide) rfl (fun ls hl => ?_)
          refine lv_iinc (v := xi + 1) (lv' := [(2, .int (xi + 1)), (1, .int 0), (0, .ref a1)]) hx hb dX2_isNothing_26 hl (k := 2) rfl (by rfl) (by decide) rfl (fun ls hl => ?_)
          refine lv_goto (tgt := 4) hx hb dX2_isNothing_29 (by decide) ?_
          exact ih (i + 1) (xi + 1) 0 ls (by omega) (by omega) (by rw [exi]; exact nI_1 i) (by rw [if_neg (fun q => c11 ((mod_z X i).mp q).1)]) (lv_sub hl [2, 1, 0] rfl)
        · have c11 := bz_1 ex1 c11
          refine lv_aload_n hx hb dX2_isNothing_14 rfl (lv_at hl 0 rfl) ?_
          refine lv_iload_n hx hb dX2_isNothing_15 rfl (lv_at hl 2 rfl) ?_
          refine ia_ld hx hb hK hP hk ht1 exi hi8 (by decide) dX2_isNothing_16 ?_
          refine lv_if_ne (tgt := 24) hx hb dX2_isNothing_17 (by decide) (fun c17 => ?_) (fun c17 => ?_)
          · refine lv_iconst (v := 0) hx hb dX2_isNothing_24 (by decide) ?_
            refine lv_istore_n (lv' := [(1, .int 0), (0, .ref a1), (2, .int xi)]) hx hb dX2_isNothing_25 rfl hl (by decide) rfl (fun ls hl => ?_)
            refine lv_iinc (v := xi + 1) (lv' := [(2, .int (xi + 1)), (1, .int 0), (0, .ref a1)]) hx hb dX2_isNothing_26 hl (k := 2) rfl (by rfl) (by decide) rfl (fun ls hl => ?_)
            refine lv_goto (tgt := 4) hx hb dX2_isNothing_29 (by decide) ?_
            exact ih (i + 1) (xi + 1) 0 ls (by omega) (by omega) (by rw [exi]; exact nI_1 i) (by rw [if_neg (fun q => c17 (by rw [hf i hi8, ((mod_z X i).mp q).2]; rfl))]) (lv_sub hl [2, 1, 0] rfl)
          · refine lv_iconst (v := 1) hx hb dX2_isNothing_20 (by decide) ?_
            refine lv_goto (tgt := 25) hx hb dX2_isNothing_21 (by decide) ?_
            refine lv_istore_n (lv' := [(1, .int 1), (0, .ref a1), (2, .int xi)]) hx hb dX2_isNothing_25 rfl hl (by decide) rfl (fun ls hl => ?_)
            refine lv_iinc (v := xi + 1) (lv' := [(2, .int (xi + 1)), (1, .int 1), (0, .ref a1)]) hx hb dX2_isNothing_26 hl (k := 2) rfl (by rfl) (by decide) rfl (fun ls hl => ?_)
            refine lv_goto (tgt := 4) hx hb dX2_isNothing_29 (by decide) ?_
            exact ih (i + 1) (xi + 1) 1 ls (by omega) (by omega) (by rw [exi]; exact nI_1 i) (by rw [if_pos ((mod_z X i).mpr ⟨c11, nI_z (by omega) (by rw [← hf i hi8]; exact c17)⟩)]) (lv_sub hl [2, 1, 0] rfl)
  refine lv_iconst (v := 1) hx hb dX2_isNothing_0 (by decide) ?_
  refine lv_istore_n (lv' := [(1, .int 1), (0, .ref a1)]) hx hb dX2_isNothing_1 rfl hl (by decide) rfl (fun ls hl => ?_)
  refine lv_iconst (v := 0) hx hb dX2_isNothing_2 (by decide) ?_
  refine lv_istore_n (lv' := [(2, .int 0), (1, .int 1), (0, .ref a1)]) hx hb dX2_isNothing_3 rfl hl (by decide) rfl (fun ls hl => ?_)
  exact loop 81 0 0 1 ls (by omega) (by omega) nI_0.symm (by rw [if_pos (by rw [Nat.pow_zero, Nat.mod_one])]) (lv_sub hl [2, 1, 0] rfl)
