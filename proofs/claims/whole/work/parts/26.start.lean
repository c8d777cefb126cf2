theorem md_app {c0 c1 c2 c3 c4 c5 c6 c7 c8 c9 : Nat × va_E} {k0 k1 : ClassId × FieldType} {ad : Nat → Nat} {cB : Nat → ClassId} : mdS ([c0, c1, c2, c3, c4, c5, c6, c7, c8, c9] ++ [(ad 0, .inr (ciM, [.ref (ad 1), .ref (ad 2), .ref (ad 3), .ref (ad 4), .ref (ad 5), .ref (ad 6), .ref (ad 7), .int 0])), (ad 1, .inl (cB 0, 8, .inr (.inl (fun _ => 0)))), (ad 2, .inl (cB 1, 160, .inl (fun _ => 0))), (ad 3, .inl (cB 2, 4, .inl (fun _ => 0))), (ad 4, .inl (cB 3, 80, .inl (fun _ => 0))), (ad 5, .inl (cB 4, 80, .inl (fun _ => 0))), (ad 6, .inl (cB 5, 80, .inl (fun _ => 0))), (ad 7, .inl (cB 6, 80, .inl (fun _ => 0)))]) ([c0, c1, c2, c3, c4, c5, c6, c7, c8, c9] ++ [(ad 0, .inr (ciM, [.ref (ad 1), .ref (ad 2), .ref (ad 3), .ref (ad 4), .ref (ad 5), .ref (ad 6), .ref (ad 7), .int 0])), (ad 1, .inl (cB 0, 8, .inr (.inl (fun _ => 0)))), (ad 2, .inl (cB 1, 160, .inl (fun _ => 0))), (ad 3, .inl (cB 2, 4, .inl (fun _ => 0))), (ad 4, .inl (cB 3, 80, .inl (fun _ => 0))), (ad 5, .inl (cB 4, 80, .inl (fun _ => 0))), (ad 6, .inl (cB 5, 80, .inl (fun _ => 0))), (ad 7, .inl (cB 6, 80, .inl (fun _ => 0)))]) ([k0, k1] ++ [(cB 0, .long), (cB 1, .int), (cB 2, .boolean), (cB 3, .int), (cB 4, .int), (cB 5, .int), (cB 6, .int)]) ad cB (fun _ => 0, fun _ => 0) := by
  refine ⟨fun _ => 0, fun _ => 0, fun _ => 0, fun _ => 0, fun _ => 0, fun _ => 0, 0, ⟨rfl, rfl, rfl, rfl, rfl, rfl, rfl, rfl, fun j _ => rfl, rfl, rfl, rfl, rfl, rfl, rfl, rfl⟩, fun t ht => ⟨fun k hk => ?_, ?_, ?_⟩⟩
  · show (0 : Int32) = nI ((0 : Int).natAbs / 10 ^ k % 10)
    rw [show (0 : Int).natAbs = 0 from rfl, Nat.zero_div]; rfl
  · show (0 : Int32) = if (0 : Int) < 0 then 1 else 0
    rw [if_neg (by decide)]
  · show (0 : Int).natAbs < 10 ^ 36
    decide
set_option maxHeartbeats 4000000 in
set_option maxRecDepth 100000 in
theorem whole_start {p : Program} {e : Env} {s : State} {m : MethodId} {below : List Frame} {meth : Method} {c : Code} (l : Launch) {b L : Nat} {xs : Nat → Int32} (hL : L ≤ 3584) (C0 : lw_At p s m meth c b L xs) : W p l e room_1 s m #[Value.ref b] below meth c s.heap [] 0 0 (lw_Z below #[Value.ref b] s) (entryFrame m ([Value.ref b] : List Value).toArray 4) := by
  obtain ⟨hx, hb, hr, hml, hown, htsT, hX, hbl, hlocks, hgv⟩ := id C0
  have hts : ∀ w ∈ wsL_law, w.before #[Value.ref b] s = true := fun w h => htsT w (wsL_law_in w h)
  have hA : ∀ q : Nat, s.heap.size ≤ q → (fun q : Nat => s.heap.size ≤ q) q := fun _ h => h
  have hbA : ¬ (fun q : Nat => s.heap.size ≤ q) b := Nat.not_le.mpr hbl
  have hN : va_Nw (.methodLinkNest RX1 19 yX0_init "ExactDesk") s := va_Nw.of rfl (htsT (.methodLinkNest RX1 19 yX0_init "ExactDesk") (by decide +kernel))
  have hAO : va_AO RX0 s := va_AO.of (htsT (.arrayOver (.object RX0)) (by decide +kernel))
  obtain ⟨c0, iS0, hKn0⟩ := u_known (C := RX0) (T := TX0) (N := 2) (n := 2) htsT inX0 (htsT (.instantiable RX0 2) (by decide +kernel))
  obtain ⟨c1, iS1, hKn1⟩ := u_known (C := RX1) (T := TX1) (N := 5) (n := 5) htsT inX1 (htsT (.instantiable RX1 5) (by decide +kernel))
  obtain ⟨c2, iS2, hKn2⟩ := u_known (C := RX2) (T := TX2) (N := 8) (n := 8) htsT inX2 (htsT (.instantiable RX2 8) (by decide +kernel))
  obtain ⟨D, hKc⟩ : ∃ (D : va_G), ∀ (k : Nat) (q : vw_C), vwCl[k]? = some q → u_Kn s q.1 q.2.1 q.2.2 (D.1 k) (D.2 k) := by
    refine ⟨(fun k => if k = 0 then c0 else if k = 1 then c1 else c2, fun k => if k = 0 then iS0 else if k = 1 then iS1 else iS2), ?_⟩
    intro k q hq
    match k, hq with
    | 0, hq => cases hq; exact hKn0
    | 1, hq => cases hq; exact hKn1
    | 2, hq => cases hq; exact hKn2
    | k + 3, hq => simp [vwCl] at hq
  have hS : va_S (fun q : Nat => s.heap.size ≤ q) s.heap s.heap [] := va_S.rf
  have hK : va_K D vwCl [] s := ⟨hKc, fun k q h => by simp at h⟩
  have hP : va_P D vwCl [] s.heap := fun k q h => by simp at h
  have hD : va_D (fun q : Nat => s.heap.size ≤ q) [] := ⟨fun i j p q h => by simp at h, fun k q h => by simp at h⟩
  have hl := lv_entry ([.ref b]) (n := 4) (Nat.le_of_ble_eq_true rfl)
  rw [lg_entry_eq]
  generalize (lg_sl ([.ref b]) ++ List.replicate (4 - (lg_sl ([.ref b])).length) Slot.unset).toArray = ls at hl ⊢
  have hl : lv_has ls 4 [(0, .ref b)] := hl
  refine va_new (ci := ciE) (fs := [.null, .null, .null, .null, .null]) (C := RX1) (T := TX1) (N := 5) hx hb hts inlX1 tyX1 tyX1_ok hown (hts (.classLink RL 7 RX1) (by decide +kernel)) (hts (.instantiable RX1 5) (by decide +kernel)) (hts (.initialized RX1) (by decide +kernel)) hK hP hD hS hA rfl (fun j hj => by rcases (show j = 0 ∨ j = 1 ∨ j = 2 ∨ j = 3 ∨ j = 4 by omega) with rfl | rfl | rfl | rfl | rfl <;> rfl) (Nat.le_of_ble_eq_true rfl) (Nat.le_of_ble_eq_true rfl) dL_law_0 (fun q0 H hP hD hS => ?_)
  have hP : va_P D vwCl [(q0, .inr (ciE, [.null, .null, .null, .null, .null]))] H := hP
  have hD : va_D (fun q : Nat => s.heap.size ≤ q) [(q0, .inr (ciE, [.null, .null, .null, .null, .null]))] := hD
  refine lv_dup hx hb dL_law_3 rfl ?_
  have hF := xb_fr hD hS hA
  refine va_callv (va_runI (As := []) (rest := [.ref q0]) ⟨hx, hb, hml, hown, hts⟩ (cE_init l D q0 H.size) (cwI 0 hts gL_law_X1_init rfl rfl rfl (hts (.initialized RX1) (by decide +kernel)) (hts (.methodLink RL 9 yX1_init) (by decide +kernel)) (hts (.instanceMethod yX1_init) (by decide +kernel)) rfl (by decide +kernel) ⟨Nat.le_of_ble_eq_true rfl, Nat.le_of_ble_eq_true rfl⟩) ⟨fun a U g mk q => by obtain ⟨q0, ⟨q1, qP, qK, qD⟩, qN, qA⟩ := q; exact ⟨q0, ⟨q1, qP, va_K.moved (u := U) (U := U.calling g mk a) (Vm.Alike.refl U.vm) qK, qD⟩, va_Nw.same rfl (U := U.calling g mk a) rfl qN, va_AO.moved (u := U) (U := U.calling g mk a) (Vm.Alike.refl U.vm) qA⟩, fun U hU hW => ⟨rfl, ⟨by rw [hU], by rw [hU]; exact hP, va_K.moved hW.alike hK, hD.weaken (fun _ _ _ _ => trivial)⟩, va_Nw.warmM hW hN, va_AO.moved hW.alike hAO⟩⟩ rfl rfl hl.1 rfl (lv_room (Nat.le_of_ble_eq_true rfl)) dL_law_4 ⟨Nat.le_of_ble_eq_true rfl, Nat.le_of_ble_eq_true rfl⟩) hS (fun q _ h => hF q h) hF (fun u t H1 locs ht hvm hp hB hz1 hk1 hS => ?_)
  obtain ⟨wsC, tysC⟩ := u
  obtain ⟨ad, cA, g, ead, hlen, X⟩ := hp
  obtain ⟨hP1, hK1, hD1⟩ := hB
  rw [ht] at hP1
  have hK1 := va_K.moved hvm.symm hK1
  have hD := hD1.weaken (fun _ q _ h => hF q.1 h)
  dsimp only at hP1 hK1 hD X hlen
  have hK : va_K D vwCl [(cA 0, .long), (cA 1, .object RWide)] s := hK1.sub [0, 1] (by simp [xd_t0 X, xd_t1 X])
  obtain ⟨c0, c1, c2, c3, c4, c5, c6, c7, c8, c9, rfl⟩ := len10 hlen
  generalize H1 = H at hP1 hS ⊢
  refine W.widen (k := 10) (n := 31) (Nat.le_of_ble_eq_true rfl) (Nat.le_of_ble_eq_true rfl) ?_
  refine lv_astore_n (lv' := [(1, .ref q0), (0, .ref b)]) hx hb dL_law_7 rfl hl (by decide) rfl (fun ls hl => ?_)
  refine va_new (ci := ciM) (fs := [.null, .null, .null, .null, .null, .null, .null, .int 0]) (C := RX2) (T := TX2) (N := 8) hx hb hts inlX2 tyX2 tyX2_ok hown (hts (.classLink RL 10 RX2) (by decide +kernel)) (hts (.instantiable RX2 8) (by decide +kernel)) (hts (.initialized RX2) (by decide +kernel)) hK hP1 hD hS hA rfl (fun j hj => by rcases (show j = 0 ∨ j = 1 ∨ j = 2 ∨ j = 3 ∨ j = 4 ∨ j = 5 ∨ j = 6 ∨ j = 7 by omega) with rfl | rfl | rfl | rfl | rfl | rfl | rfl | rfl <;> rfl) (Nat.le_of_ble_eq_true rfl) (Nat.le_of_ble_eq_true rfl) dL_law_8 (fun q1 H hP hD hS => ?_)
  have hP : va_P D vwCl [c0, c1, c2, c3, c4, c5, c6, c7, c8, c9, (q1, .inr (ciM, [.null, .null, .null, .null, .null, .null, .null, .int 0]))] H := hP
  have hD : va_D (fun q : Nat => s.heap.size ≤ q) [c0, c1, c2, c3, c4, c5, c6, c7, c8, c9, (q1, .inr (ciM, [.null, .null, .null, .null, .null, .null, .null, .int 0]))] := hD
  refine lv_dup hx hb dL_law_11 rfl ?_
  have hPc := hP.sub (ws' := [(q1, .inr (ciM, [.null, .null, .null, .null, .null, .null, .null, .int 0]))]) [10] rfl
  have hDc := hD.sub (ws' := [(q1, .inr (ciM, [.null, .null, .null, .null, .null, .null, .null, .int 0]))]) [10] (by decide) rfl
  have hKe := hK.sub (tys' := []) [] rfl
  have hFc := va_free (wc := [(q1, .inr (ciM, [.null, .null, .null, .null, .null, .null, .null, .int 0]))]) hD hS hA [10] rfl
  refine va_callv (va_runI (As := []) (rest := [.ref q1]) ⟨hx, hb, hml, hown, hts⟩ (cM_init l D q1 H.size) (cwI 0 hts gL_law_X2_init rfl rfl rfl (hts (.initialized RX2) (by decide +kernel)) (hts (.methodLink RL 12 yX2_init) (by decide +kernel)) (hts (.instanceMethod yX2_init) (by decide +kernel)) rfl (by decide +kernel) ⟨Nat.le_of_ble_eq_true rfl, Nat.le_of_ble_eq_true rfl⟩) (xb_ps rfl hPc hKe hDc) rfl rfl hl.1 rfl (lv_room (Nat.le_of_ble_eq_true rfl)) dL_law_12 ⟨Nat.le_of_ble_eq_true rfl, Nat.le_of_ble_eq_true rfl⟩) hS (fun q _ h => hFc q h) hFc (fun u t H1 locs ht hvm hp hB hz1 hk1 hS => ?_)
  obtain ⟨wsM, tysM⟩ := u
  obtain ⟨adM, cB, eadM, ewM, etM⟩ := hp
  obtain ⟨hP2, hK2, hD2⟩ := hB
  rw [ht] at hP2
  have hK2 := va_K.moved hvm.symm hK2
  dsimp only at hP2 hK2 hD2 ewM etM
  obtain ⟨hP, hD⟩ := va_join (wr := [c0, c1, c2, c3, c4, c5, c6, c7, c8, c9]) (w1 := wsM) hP hD [10] [0, 1, 2, 3, 4, 5, 6, 7, 8, 9] rfl rfl (by decide) (by decide) hk1 hFc hP2 hD2
  have hK := hK.app hK2
  subst ewM
  subst etM
  generalize H1 = H at hP hS ⊢
  refine W.widen (k := 18) (n := 531) (Nat.le_of_ble_eq_true rfl) (Nat.le_of_ble_eq_true rfl) ?_
  have eM : q1 = adM 0 := eadM.symm
  have eE : q0 = ad 0 := ead.symm
  refine lv_astore_n (lv' := [(2, .ref q1), (1, .ref q0), (0, .ref b)]) hx hb dL_law_15 rfl hl (by decide) rfl (fun ls hl => ?_)
  refine lv_iconst (v := 0) hx hb dL_law_16 (by decide) ?_
  refine lv_istore_n (lv' := [(3, .int 0), (2, .ref q1), (1, .ref q0), (0, .ref b)]) hx hb dL_law_17 rfl hl (by decide) rfl (fun ls hl => ?_)
  have hl := lv_sub (l' := [(0, .ref b), (1, .ref q0), (2, .ref q1), (3, .int 0)]) hl [3, 2, 1, 0] rfl
  rw [eE, eM] at hl
  exact law_loop hL C0 hK (L + 1) 0 0 (fun _ => 0, fun _ => 0) 0 _ H locs ls (Nat.zero_le _) (by omega) nI_0.symm (xd_move X (fun j hj => List.getElem?_append_left hj) rfl rfl) md_app hP hD hS hl
