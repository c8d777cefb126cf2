set_option maxHeartbeats 4000000 in
set_option maxRecDepth 100000 in
theorem law_loop {p : Program} {l : Launch} {e : Env} {s : State} {m : MethodId} {below : List Frame} {meth : Method} {c : Code} {D : va_G} {b L : Nat} {xs : Nat → Int32} (hL : L ≤ 3584) (C0 : lw_At p s m meth c b L xs) {tys : xT} {ad adM : Nat → Nat} {cA cB : Nat → ClassId} {g : Nat → Option Nat} (hK : va_K D vwCl tys s) :
    ∀ (n i : Nat) (x3 : Int32) (S : sS) (o : Int) (ws : va_W) (H : Heap) (locs : List Loc) (ls : Array Slot), i ≤ L → L < i + n → x3 = nI i → xd ws ws tys ad cA g S.1 S.2 o → mdS ws ws tys adM cB S → va_P D vwCl ws H → va_D (fun q : Nat => s.heap.size ≤ q) ws → va_S (fun q : Nat => s.heap.size ≤ q) s.heap H locs → lv_has ls 4 [(0, .ref b), (1, .ref (ad 0)), (2, .ref (adM 0)), (3, .int x3)] → W p l e room_1 s m #[Value.ref b] below meth c H locs 18 531 (lw_Z below #[Value.ref b] s) (F0 m 18 ls []) := by
  obtain ⟨hx, hb, hr, hml, hown, htsT, hX, hbl, hlocks, hgv⟩ := id C0
  have hA : ∀ q : Nat, s.heap.size ≤ q → (fun q : Nat => s.heap.size ≤ q) q := fun _ h => h
  have hbA : ¬ (fun q : Nat => s.heap.size ≤ q) b := Nat.not_le.mpr hbl
  intro n
  induction n with
  | zero =>
    intro i x3 S o ws H locs ls h1 h2
    omega
  | succ n ih =>
    intro i x3 S o ws H locs ls h1 h2 ex3 X Y hP hD hS hl
    refine lv_iload_n hx hb dL_law_18 rfl (lv_at hl 3 rfl) ?_
    refine lv_aload_n hx hb dL_law_19 rfl (lv_at hl 0 rfl) ?_
    refine va_slen hx hb hX hbl hbA hS dL_law_20 ?_
    refine lv_bipush (v := 7) hx hb dL_law_21 (by decide) ?_
    refine lv_isub hx hb dL_law_23 ?_
    refine lv_icmp_gt (tgt := 825) hx hb dL_law_24 (by decide) (fun c24 => ?_) (fun c24 => ?_)
    · refine lv_iconst (v := 1) hx hb dL_law_825 (by decide) ?_
      refine va_forget (fun q hq => hS.2.2 q hq) ?_
      refine W.widen (k := 600000) (n := 7302250) (Nat.le_of_ble_eq_true rfl) (Nat.le_of_ble_eq_true rfl) ?_
      exact lw_ret hx hb hr hlocks dL_law_826
    · have hi7 := l7 ex3 h1 hL c24
      have kk : ∀ (S1 : sS) (o1 : Int) (ws1 : va_W) (H1 : Heap) (locs1 : List Loc), xd ws1 ws1 tys ad cA g S1.1 S1.2 o1 → mdS ws1 ws1 tys adM cB S1 → va_P D vwCl ws1 H1 → va_D (fun q : Nat => s.heap.size ≤ q) ws1 → va_S (fun q : Nat => s.heap.size ≤ q) s.heap H1 locs1 → W p l e room_1 s m #[Value.ref b] below meth c H1 locs1 18 531 (lw_Z below #[Value.ref b] s) (F0 m 819 ls []) := by
        intro S1 o1 ws1 H1 locs1 X Y hP hD hS
        refine lv_iinc (v := x3 + 7) (lv' := [(3, .int (x3 + 7)), (0, .ref b), (1, .ref (ad 0)), (2, .ref (adM 0))]) hx hb dL_law_819 hl (k := 3) rfl (by rfl) (by decide) rfl (fun ls hl => ?_)
        refine lv_goto (tgt := 18) hx hb dL_law_822 (by decide) ?_
        exact ih (i + 7) (x3 + 7) S1 o1 ws1 H1 locs1 ls hi7 (by omega) (by rw [ex3]; exact nI_add i 7) X Y hP hD hS (lv_sub hl [1, 2, 3, 0] rfl)
      refine lv_aload_n hx hb dL_law_27 rfl (lv_at hl 0 rfl) ?_
      refine lv_iload_n hx hb dL_law_28 rfl (lv_at hl 3 rfl) ?_
      refine va_sld hx hb hX hbl hbA hS (lin0 ex3 hi7 hL) dL_law_29 ?_
      refine lv_bipush (v := 15) hx hb dL_law_30 (by decide) ?_
      refine lv_iand hx hb dL_law_32 ?_
      obtain ⟨j, hj, ej⟩ := pk_andE (xs x3.toNatClampNeg) (m := 15) 4 (by decide)
      rw [ej]
      rcases (show j = 0 ∨ j = 1 ∨ j = 2 ∨ j = 3 ∨ j = 4 ∨ j = 5 ∨ j = 6 ∨ j = 7 ∨ j = 8 ∨ j = 9 ∨ j = 10 ∨ j = 11 ∨ j = 12 ∨ j = 13 ∨ j = 14 ∨ j = 15 by omega) with rfl | rfl | rfl | rfl | rfl | rfl | rfl | rfl | rfl | rfl | rfl | rfl | rfl | rfl | rfl | rfl
      · refine lv_tableIn (tgt := 104) hx hb dL_law_33 (by decide) (by decide) rfl (by decide) ?_
        exact law_0 hL C0 hK hi7 ex3 X Y hP hD hS hl kk
      · refine lv_tableIn (tgt := 167) hx hb dL_law_33 (by decide) (by decide) rfl (by decide) ?_
        exact law_1 hL C0 hK hi7 ex3 X Y hP hD hS hl kk
      · refine lv_tableIn (tgt := 191) hx hb dL_law_33 (by decide) (by decide) rfl (by decide) ?_
        exact law_2 hL C0 hK hi7 ex3 X Y hP hD hS hl kk
      · refine lv_tableIn (tgt := 254) hx hb dL_law_33 (by decide) (by decide) rfl (by decide) ?_
        exact law_3 hL C0 hK hi7 ex3 X Y hP hD hS hl kk
      · refine lv_tableIn (tgt := 317) hx hb dL_law_33 (by decide) (by decide) rfl (by decide) ?_
        exact law_4 hL C0 hK hi7 ex3 X Y hP hD hS hl kk
      · refine lv_tableIn (tgt := 380) hx hb dL_law_33 (by decide) (by decide) rfl (by decide) ?_
        exact law_5 hL C0 hK hi7 ex3 X Y hP hD hS hl kk
      · refine lv_tableIn (tgt := 495) hx hb dL_law_33 (by decide) (by decide) rfl (by decide) ?_
        exact law_6 hL C0 hK hi7 ex3 X Y hP hD hS hl kk
      · refine lv_tableIn (tgt := 568) hx hb dL_law_33 (by decide) (by decide) rfl (by decide) ?_
        exact law_7 hL C0 hK hi7 ex3 X Y hP hD hS hl kk
      · refine lv_tableIn (tgt := 601) hx hb dL_law_33 (by decide) (by decide) rfl (by decide) ?_
        exact law_8 hL C0 hK hi7 ex3 X Y hP hD hS hl kk
      · refine lv_tableIn (tgt := 674) hx hb dL_law_33 (by decide) (by decide) rfl (by decide) ?_
        exact law_9 hL C0 hK hi7 ex3 X Y hP hD hS hl kk
      · refine lv_tableIn (tgt := 707) hx hb dL_law_33 (by decide) (by decide) rfl (by decide) ?_
        exact law_10 hL C0 hK hi7 ex3 X Y hP hD hS hl kk
      · refine lv_tableIn (tgt := 730) hx hb dL_law_33 (by decide) (by decide) rfl (by decide) ?_
        exact law_11 hL C0 hK hi7 ex3 X Y hP hD hS hl kk
      · refine lv_tableIn (tgt := 763) hx hb dL_law_33 (by decide) (by decide) rfl (by decide) ?_
        exact law_12 hL C0 hK hi7 ex3 X Y hP hD hS hl kk
      · refine lv_tableIn (tgt := 786) hx hb dL_law_33 (by decide) (by decide) rfl (by decide) ?_
        exact law_13 hL C0 hK hi7 ex3 X Y hP hD hS hl kk
      · refine lv_tableOut (tgt := 819) hx hb dL_law_33 (by decide) (by decide) ?_
        exact kk S o ws H locs X Y hP hD hS
      · refine lv_tableOut (tgt := 819) hx hb dL_law_33 (by decide) (by decide) ?_
        exact kk S o ws H locs X Y hP hD hS
