-- the law, case by case (laid by wip/whole/gen_law.py)
set_option maxHeartbeats 4000000 in
set_option maxRecDepth 100000 in
theorem law_0 {p : Program} {l : Launch} {e : Env} {s : State} {m : MethodId} {below : List Frame} {meth : Method} {c : Code} {D : va_G} {b L : Nat} {xs : Nat → Int32} (hL : L ≤ 3584) (C0 : lw_At p s m meth c b L xs) {tys : xT} {ad adM : Nat → Nat} {cA cB : Nat → ClassId} {g : Nat → Option Nat} (hK : va_K D vwCl tys s) {i : Nat} {x3 : Int32} (hi7 : i + 7 ≤ L) (ex3 : x3 = nI i) {S : sS} {o : Int} {ws : va_W} {H : Heap} {locs : List Loc} {ls : Array Slot} (X : xd ws ws tys ad cA g S.1 S.2 o) (Y : mdS ws ws tys adM cB S) (hP : va_P D vwCl ws H) (hD : va_D (fun q : Nat => s.heap.size ≤ q) ws) (hS : va_S (fun q : Nat => s.heap.size ≤ q) s.heap H locs) (hl : lv_has ls 4 [(0, .ref b), (1, .ref (ad 0)), (2, .ref (adM 0)), (3, .int x3)])
    (kk : ∀ (S1 : sS) (o1 : Int) (ws1 : va_W) (H1 : Heap) (locs1 : List Loc), xd ws1 ws1 tys ad cA g S1.1 S1.2 o1 → mdS ws1 ws1 tys adM cB S1 → va_P D vwCl ws1 H1 → va_D (fun q : Nat => s.heap.size ≤ q) ws1 → va_S (fun q : Nat => s.heap.size ≤ q) s.heap H1 locs1 → W p l e room_1 s m #[Value.ref b] below meth c H1 locs1 18 531 (lw_Z below #[Value.ref b] s) (F0 m 819 ls [])) : W p l e room_1 s m #[Value.ref b] below meth c H locs 18 531 (lw_Z below #[Value.ref b] s) (F0 m 104 ls []) := by
  obtain ⟨hx, hb, hr, hml, hown, htsT, hX, hbl, hlocks, hgv⟩ := C0
  have hts : ∀ w ∈ wsL_law, w.before #[Value.ref b] s = true := fun w h => htsT w (wsL_law_in w h)
  have hA : ∀ q : Nat, s.heap.size ≤ q → (fun q : Nat => s.heap.size ≤ q) q := fun _ h => h
  have hbA : ¬ (fun q : Nat => s.heap.size ≤ q) b := Nat.not_le.mpr hbl
  refine lv_aload_n hx hb dL_law_104 rfl (lv_at hl 1 rfl) ?_
  refine lv_aload_n hx hb dL_law_105 rfl (lv_at hl 0 rfl) ?_
  refine lv_iload_n hx hb dL_law_106 rfl (lv_at hl 3 rfl) ?_
  refine lv_iconst (v := 1) hx hb dL_law_107 (by decide) ?_
  refine lv_iadd hx hb dL_law_108 ?_
  refine va_sld hx hb hX hbl hbA hS (lin (k := 1) ex3 hi7 (by decide) hL) dL_law_109 ?_
  refine lv_aload_n hx hb dL_law_110 rfl (lv_at hl 0 rfl) ?_
  refine lv_iload_n hx hb dL_law_111 rfl (lv_at hl 3 rfl) ?_
  refine lv_iconst (v := 2) hx hb dL_law_112 (by decide) ?_
  refine lv_iadd hx hb dL_law_113 ?_
  refine va_sld hx hb hX hbl hbA hS (lin (k := 2) ex3 hi7 (by decide) hL) dL_law_114 ?_
  refine lv_i2l hx hb dL_law_115 rfl ?_
  refine lv_bipush (v := 32) hx hb dL_law_116 (by decide) ?_
  refine lv_lshl hx hb dL_law_118 rfl ?_
  refine lv_aload_n hx hb dL_law_119 rfl (lv_at hl 0 rfl) ?_
  refine lv_iload_n hx hb dL_law_120 rfl (lv_at hl 3 rfl) ?_
  refine lv_iconst (v := 3) hx hb dL_law_121 (by decide) ?_
  refine lv_iadd hx hb dL_law_122 ?_
  refine va_sld hx hb hX hbl hbA hS (lin (k := 3) ex3 hi7 (by decide) hL) dL_law_123 ?_
  refine lv_i2l hx hb dL_law_124 rfl ?_
  refine lv_ldc2 (v := 4294967295) hx hb hown (htsT (.constantLong RL 13 (4294967295)) (by decide +kernel)) dL_law_125 ?_
  refine lv_land hx hb dL_law_128 ?_
  refine lv_lor hx hb dL_law_129 ?_
  refine xb_ri (va_runV (As := [.int (xs (x3 + 1).toNatClampNeg), .long ((((xs (x3 + 2).toNatClampNeg).toInt64) <<< ((32 : Int32).toInt64 &&& 63)) ||| (((xs (x3 + 3).toNatClampNeg).toInt64) &&& 4294967295))]) (rest := []) ⟨hx, hb, hml, hown, hts⟩ (cE_set l D X (xs (x3 + 1).toNatClampNeg) ((((xs (x3 + 2).toNatClampNeg).toInt64) <<< ((32 : Int32).toInt64 &&& 63)) ||| (((xs (x3 + 3).toNatClampNeg).toInt64) &&& 4294967295))) (cwV 2 hts gL_law_X1_set rfl rfl rfl (by decide +kernel) ⟨Nat.le_of_ble_eq_true rfl, Nat.le_of_ble_eq_true rfl⟩) (xb_pv hP hK hD rfl rfl (xd_a0 X)) rfl rfl hl.1 rfl (lv_room (Nat.le_of_ble_eq_true rfl)) dL_law_130 ⟨Nat.le_of_ble_eq_true rfl, Nat.le_of_ble_eq_true rfl⟩) hD hS hA (fun r130 ws1 H locs hws1 hP hD hS => ?_)
  obtain ⟨o1, X, hr130⟩ := hws1
  have Y := mdS_move Y (xd_rest X)
  obtain ⟨tf, bf, fa, fb, fc, fr, ng, M, T⟩ := Y
  refine lv_aload_n hx hb dL_law_133 rfl (lv_at hl 2 rfl) ?_
  refine lv_aload_n hx hb dL_law_134 rfl (lv_at hl 0 rfl) ?_
  refine lv_iload_n hx hb dL_law_135 rfl (lv_at hl 3 rfl) ?_
  refine lv_iconst (v := 1) hx hb dL_law_136 (by decide) ?_
  refine lv_iadd hx hb dL_law_137 ?_
  refine va_sld hx hb hX hbl hbA hS (lin (k := 1) ex3 hi7 (by decide) hL) dL_law_138 ?_
  refine lv_aload_n hx hb dL_law_139 rfl (lv_at hl 0 rfl) ?_
  refine lv_iload_n hx hb dL_law_140 rfl (lv_at hl 3 rfl) ?_
  refine lv_iconst (v := 2) hx hb dL_law_141 (by decide) ?_
  refine lv_iadd hx hb dL_law_142 ?_
  refine va_sld hx hb hX hbl hbA hS (lin (k := 2) ex3 hi7 (by decide) hL) dL_law_143 ?_
  refine lv_i2l hx hb dL_law_144 rfl ?_
  refine lv_bipush (v := 32) hx hb dL_law_145 (by decide) ?_
  refine lv_lshl hx hb dL_law_147 rfl ?_
  refine lv_aload_n hx hb dL_law_148 rfl (lv_at hl 0 rfl) ?_
  refine lv_iload_n hx hb dL_law_149 rfl (lv_at hl 3 rfl) ?_
  refine lv_iconst (v := 3) hx hb dL_law_150 (by decide) ?_
  refine lv_iadd hx hb dL_law_151 ?_
  refine va_sld hx hb hX hbl hbA hS (lin (k := 3) ex3 hi7 (by decide) hL) dL_law_152 ?_
  refine lv_i2l hx hb dL_law_153 rfl ?_
  refine lv_ldc2 (v := 4294967295) hx hb hown (htsT (.constantLong RL 13 (4294967295)) (by decide +kernel)) dL_law_154 ?_
  refine lv_land hx hb dL_law_157 ?_
  refine lv_lor hx hb dL_law_158 ?_
  refine xb_ri (va_runV (As := [.int (xs (x3 + 1).toNatClampNeg), .long ((((xs (x3 + 2).toNatClampNeg).toInt64) <<< ((32 : Int32).toInt64 &&& 63)) ||| (((xs (x3 + 3).toNatClampNeg).toInt64) &&& 4294967295))]) (rest := [.int r130]) ⟨hx, hb, hml, hown, htsT⟩ (cM_set l D M T (xs (x3 + 1).toNatClampNeg) ((((xs (x3 + 2).toNatClampNeg).toInt64) <<< ((32 : Int32).toInt64 &&& 63)) ||| (((xs (x3 + 3).toNatClampNeg).toInt64) &&& 4294967295))) (cwV 2 htsT (gL_M (idx := 19) (y := yX2_set) (cy := .code yX2_set cX2_set 4 (some .boolean)) (by decide +kernel) mw_51) rfl rfl rfl (by decide +kernel) ⟨Nat.le_of_ble_eq_true rfl, Nat.le_of_ble_eq_true rfl⟩) (xb_pv hP hK hD rfl rfl (md_a0 M)) rfl rfl hl.1 rfl (lv_room (Nat.le_of_ble_eq_true rfl)) dL_law_159 ⟨Nat.le_of_ble_eq_true rfl, Nat.le_of_ble_eq_true rfl⟩) hD hS hA (fun r159 ws2 H locs hws2 hP hD hS => ?_)
  obtain ⟨Y, hr159⟩ := hws2
  have X := xd_move X (mdS_w Y) (xd_t0 X) (xd_t1 X)
  have Y := mdS_re Y
  refine lv_icmp_eq (tgt := 819) hx hb dL_law_162 (by decide) (fun c162 => ?_) (fun c162 => ?_)
  · exact kk _ _ ws2 H locs X Y hP hD hS
  · exact absurd (hr130.trans hr159.symm) c162
set_option maxHeartbeats 4000000 in
set_option maxRecDepth 100000 in
theorem law_1 {p : Program} {l : Launch} {e : Env} {s : State} {m : MethodId} {below : List Frame} {meth : Method} {c : Code} {D : va_G} {b L : Nat} {xs : Nat → Int32} (hL : L ≤ 3584) (C0 : lw_At p s m meth c b L xs) {tys : xT} {ad adM : Nat → Nat} {cA cB : Nat → ClassId} {g : Nat → Option Nat} (hK : va_K D vwCl tys s) {i : Nat} {x3 : Int32} (hi7 : i + 7 ≤ L) (ex3 : x3 = nI i) {S : sS} {o : Int} {ws : va_W} {H : Heap} {locs : List Loc} {ls : Array Slot} (X : xd ws ws tys ad cA g S.1 S.2 o) (Y : mdS ws ws tys adM cB S) (hP : va_P D vwCl ws H) (hD : va_D (fun q : Nat => s.heap.size ≤ q) ws) (hS : va_S (fun q : Nat => s.heap.size ≤ q) s.heap H locs) (hl : lv_has ls 4 [(0, .ref b), (1, .ref (ad 0)), (2, .ref (adM 0)), (3, .int x3)])
    (kk : ∀ (S1 : sS) (o1 : Int) (ws1 : va_W) (H1 : Heap) (locs1 : List Loc), xd ws1 ws1 tys ad cA g S1.1 S1.2 o1 → mdS ws1 ws1 tys adM cB S1 → va_P D vwCl ws1 H1 → va_D (fun q : Nat => s.heap.size ≤ q) ws1 → va_S (fun q : Nat => s.heap.size ≤ q) s.heap H1 locs1 → W p l e room_1 s m #[Value.ref b] below meth c H1 locs1 18 531 (lw_Z below #[Value.ref b] s) (F0 m 819 ls [])) : W p l e room_1 s m #[Value.ref b] below meth c H locs 18 531 (lw_Z below #[Value.ref b] s) (F0 m 167 ls []) := by
  obtain ⟨hx, hb, hr, hml, hown, htsT, hX, hbl, hlocks, hgv⟩ := C0
  have hts : ∀ w ∈ wsL_law, w.before #[Value.ref b] s = true := fun w h => htsT w (wsL_law_in w h)
  have hA : ∀ q : Nat, s.heap.size ≤ q → (fun q : Nat => s.heap.size ≤ q) q := fun _ h => h
  have hbA : ¬ (fun q : Nat => s.heap.size ≤ q) b := Nat.not_le.mpr hbl
  refine lv_aload_n hx hb dL_law_167 rfl (lv_at hl 1 rfl) ?_
  refine lv_aload_n hx hb dL_law_168 rfl (lv_at hl 0 rfl) ?_
  refine lv_iload_n hx hb dL_law_169 rfl (lv_at hl 3 rfl) ?_
  refine lv_iconst (v := 1) hx hb dL_law_170 (by decide) ?_
  refine lv_iadd hx hb dL_law_171 ?_
  refine va_sld hx hb hX hbl hbA hS (lin (k := 1) ex3 hi7 (by decide) hL) dL_law_172 ?_
  refine xb_rl (va_runV (As := [.int (xs (x3 + 1).toNatClampNeg)]) (rest := []) ⟨hx, hb, hml, hown, hts⟩ (cE_get l D X (xs (x3 + 1).toNatClampNeg)) (cwV 1 hts gL_law_X1_get rfl rfl rfl (by decide +kernel) ⟨Nat.le_of_ble_eq_true rfl, Nat.le_of_ble_eq_true rfl⟩) (xb_pv hP hK hD rfl rfl (xd_a0 X)) rfl rfl hl.1 rfl (lv_room (Nat.le_of_ble_eq_true rfl)) dL_law_173 ⟨Nat.le_of_ble_eq_true rfl, Nat.le_of_ble_eq_true rfl⟩) hD hS hA (fun r173 ws1 H locs hws1 hP hD hS => ?_)
  obtain ⟨X, hr173⟩ := hws1
  have Y := mdS_move Y (xd_rest X)
  obtain ⟨tf, bf, fa, fb, fc, fr, ng, M, T⟩ := Y
  refine lv_aload_n hx hb dL_law_176 rfl (lv_at hl 2 rfl) ?_
  refine lv_aload_n hx hb dL_law_177 rfl (lv_at hl 0 rfl) ?_
  refine lv_iload_n hx hb dL_law_178 rfl (lv_at hl 3 rfl) ?_
  refine lv_iconst (v := 1) hx hb dL_law_179 (by decide) ?_
  refine lv_iadd hx hb dL_law_180 ?_
  refine va_sld hx hb hX hbl hbA hS (lin (k := 1) ex3 hi7 (by decide) hL) dL_law_181 ?_
  refine xb_rl (va_runV (As := [.int (xs (x3 + 1).toNatClampNeg)]) (rest := [.long r173]) ⟨hx, hb, hml, hown, htsT⟩ (cM_get l D M T (xs (x3 + 1).toNatClampNeg)) (cwV 1 htsT (gL_M (idx := 24) (y := yX2_get) (cy := .code yX2_get cX2_get 2 (some .long)) (by decide +kernel) mw_53) rfl rfl rfl (by decide +kernel) ⟨Nat.le_of_ble_eq_true rfl, Nat.le_of_ble_eq_true rfl⟩) (xb_pv hP hK hD rfl rfl (md_a0 M)) rfl rfl hl.1 rfl (lv_room (Nat.le_of_ble_eq_true rfl)) dL_law_182 ⟨Nat.le_of_ble_eq_true rfl, Nat.le_of_ble_eq_true rfl⟩) hD hS hA (fun r182 ws2 H locs hws2 hP hD hS => ?_)
  obtain ⟨Y, hr182⟩ := hws2
  have X := xd_move X (mdS_w Y) (xd_t0 X) (xd_t1 X)
  have Y := mdS_re Y
  refine W.lcmp hx hb dL_law_185 ?_
  refine lv_if_eq (tgt := 819) hx hb dL_law_186 (by decide) (fun c186 => ?_) (fun c186 => ?_)
  · rw [lg_cmp_eq] at c186
    exact kk _ _ ws2 H locs X Y hP hD hS
  · rw [lg_cmp_eq] at c186
    exact absurd (hr173.trans hr182.symm) c186
set_option maxHeartbeats 4000000 in
set_option maxRecDepth 100000 in
theorem law_2 {p : Program} {l : Launch} {e : Env} {s : State} {m : MethodId} {below : List Frame} {meth : Method} {c : Code} {D : va_G} {b L : Nat} {xs : Nat → Int32} (hL : L ≤ 3584) (C0 : lw_At p s m meth c b L xs) {tys : xT} {ad adM : Nat → Nat} {cA cB : Nat → ClassId} {g : Nat → Option Nat} (hK : va_K D vwCl tys s) {i : Nat} {x3 : Int32} (hi7 : i + 7 ≤ L) (ex3 : x3 = nI i) {S : sS} {o : Int} {ws : va_W} {H : Heap} {locs : List Loc} {ls : Array Slot} (X : xd ws ws tys ad cA g S.1 S.2 o) (Y : mdS ws ws tys adM cB S) (hP : va_P D vwCl ws H) (hD : va_D (fun q : Nat => s.heap.size ≤ q) ws) (hS : va_S (fun q : Nat => s.heap.size ≤ q) s.heap H locs) (hl : lv_has ls 4 [(0, .ref b), (1, .ref (ad 0)), (2, .ref (adM 0)), (3, .int x3)])
    (kk : ∀ (S1 : sS) (o1 : Int) (ws1 : va_W) (H1 : Heap) (locs1 : List Loc), xd ws1 ws1 tys ad cA g S1.1 S1.2 o1 → mdS ws1 ws1 tys adM cB S1 → va_P D vwCl ws1 H1 → va_D (fun q : Nat => s.heap.size ≤ q) ws1 → va_S (fun q : Nat => s.heap.size ≤ q) s.heap H1 locs1 → W p l e room_1 s m #[Value.ref b] below meth c H1 locs1 18 531 (lw_Z below #[Value.ref b] s) (F0 m 819 ls [])) : W p l e room_1 s m #[Value.ref b] below meth c H locs 18 531 (lw_Z below #[Value.ref b] s) (F0 m 191 ls []) := by
  obtain ⟨hx, hb, hr, hml, hown, htsT, hX, hbl, hlocks, hgv⟩ := C0
  have hts : ∀ w ∈ wsL_law, w.before #[Value.ref b] s = true := fun w h => htsT w (wsL_law_in w h)
  have hA : ∀ q : Nat, s.heap.size ≤ q → (fun q : Nat => s.heap.size ≤ q) q := fun _ h => h
  have hbA : ¬ (fun q : Nat => s.heap.size ≤ q) b := Nat.not_le.mpr hbl
  refine lv_aload_n hx hb dL_law_191 rfl (lv_at hl 1 rfl) ?_
  refine lv_aload_n hx hb dL_law_192 rfl (lv_at hl 0 rfl) ?_
  refine lv_iload_n hx hb dL_law_193 rfl (lv_at hl 3 rfl) ?_
  refine lv_iconst (v := 1) hx hb dL_law_194 (by decide) ?_
  refine lv_iadd hx hb dL_law_195 ?_
  refine va_sld hx hb hX hbl hbA hS (lin (k := 1) ex3 hi7 (by decide) hL) dL_law_196 ?_
  refine lv_aload_n hx hb dL_law_197 rfl (lv_at hl 0 rfl) ?_
  refine lv_iload_n hx hb dL_law_198 rfl (lv_at hl 3 rfl) ?_
  refine lv_iconst (v := 2) hx hb dL_law_199 (by decide) ?_
  refine lv_iadd hx hb dL_law_200 ?_
  refine va_sld hx hb hX hbl hbA hS (lin (k := 2) ex3 hi7 (by decide) hL) dL_law_201 ?_
  refine lv_i2l hx hb dL_law_202 rfl ?_
  refine lv_bipush (v := 32) hx hb dL_law_203 (by decide) ?_
  refine lv_lshl hx hb dL_law_205 rfl ?_
  refine lv_aload_n hx hb dL_law_206 rfl (lv_at hl 0 rfl) ?_
  refine lv_iload_n hx hb dL_law_207 rfl (lv_at hl 3 rfl) ?_
  refine lv_iconst (v := 3) hx hb dL_law_208 (by decide) ?_
  refine lv_iadd hx hb dL_law_209 ?_
  refine va_sld hx hb hX hbl hbA hS (lin (k := 3) ex3 hi7 (by decide) hL) dL_law_210 ?_
  refine lv_i2l hx hb dL_law_211 rfl ?_
  refine lv_ldc2 (v := 4294967295) hx hb hown (htsT (.constantLong RL 13 (4294967295)) (by decide +kernel)) dL_law_212 ?_
  refine lv_land hx hb dL_law_215 ?_
  refine lv_lor hx hb dL_law_216 ?_
  refine xb_ri (va_runV (As := [.int (xs (x3 + 1).toNatClampNeg), .long ((((xs (x3 + 2).toNatClampNeg).toInt64) <<< ((32 : Int32).toInt64 &&& 63)) ||| (((xs (x3 + 3).toNatClampNeg).toInt64) &&& 4294967295))]) (rest := []) ⟨hx, hb, hml, hown, hts⟩ (cE_add l D X (xs (x3 + 1).toNatClampNeg) ((((xs (x3 + 2).toNatClampNeg).toInt64) <<< ((32 : Int32).toInt64 &&& 63)) ||| (((xs (x3 + 3).toNatClampNeg).toInt64) &&& 4294967295))) (cwV 2 hts gL_law_X1_add rfl rfl rfl (by decide +kernel) ⟨Nat.le_of_ble_eq_true rfl, Nat.le_of_ble_eq_true rfl⟩) (xb_pv hP hK hD rfl rfl (xd_a0 X)) rfl rfl hl.1 rfl (lv_room (Nat.le_of_ble_eq_true rfl)) dL_law_217 ⟨Nat.le_of_ble_eq_true rfl, Nat.le_of_ble_eq_true rfl⟩) hD hS hA (fun r217 ws1 H locs hws1 hP hD hS => ?_)
  obtain ⟨o1, X, hr217⟩ := hws1
  have Y := mdS_move Y (xd_rest X)
  obtain ⟨tf, bf, fa, fb, fc, fr, ng, M, T⟩ := Y
  refine lv_aload_n hx hb dL_law_220 rfl (lv_at hl 2 rfl) ?_
  refine lv_aload_n hx hb dL_law_221 rfl (lv_at hl 0 rfl) ?_
  refine lv_iload_n hx hb dL_law_222 rfl (lv_at hl 3 rfl) ?_
  refine lv_iconst (v := 1) hx hb dL_law_223 (by decide) ?_
  refine lv_iadd hx hb dL_law_224 ?_
  refine va_sld hx hb hX hbl hbA hS (lin (k := 1) ex3 hi7 (by decide) hL) dL_law_225 ?_
  refine lv_aload_n hx hb dL_law_226 rfl (lv_at hl 0 rfl) ?_
  refine lv_iload_n hx hb dL_law_227 rfl (lv_at hl 3 rfl) ?_
  refine lv_iconst (v := 2) hx hb dL_law_228 (by decide) ?_
  refine lv_iadd hx hb dL_law_229 ?_
  refine va_sld hx hb hX hbl hbA hS (lin (k := 2) ex3 hi7 (by decide) hL) dL_law_230 ?_
  refine lv_i2l hx hb dL_law_231 rfl ?_
  refine lv_bipush (v := 32) hx hb dL_law_232 (by decide) ?_
  refine lv_lshl hx hb dL_law_234 rfl ?_
  refine lv_aload_n hx hb dL_law_235 rfl (lv_at hl 0 rfl) ?_
  refine lv_iload_n hx hb dL_law_236 rfl (lv_at hl 3 rfl) ?_
  refine lv_iconst (v := 3) hx hb dL_law_237 (by decide) ?_
  refine lv_iadd hx hb dL_law_238 ?_
  refine va_sld hx hb hX hbl hbA hS (lin (k := 3) ex3 hi7 (by decide) hL) dL_law_239 ?_
  refine lv_i2l hx hb dL_law_240 rfl ?_
  refine lv_ldc2 (v := 4294967295) hx hb hown (htsT (.constantLong RL 13 (4294967295)) (by decide +kernel)) dL_law_241 ?_
  refine lv_land hx hb dL_law_244 ?_
  refine lv_lor hx hb dL_law_245 ?_
  refine xb_ri (va_runV (As := [.int (xs (x3 + 1).toNatClampNeg), .long ((((xs (x3 + 2).toNatClampNeg).toInt64) <<< ((32 : Int32).toInt64 &&& 63)) ||| (((xs (x3 + 3).toNatClampNeg).toInt64) &&& 4294967295))]) (rest := [.int r217]) ⟨hx, hb, hml, hown, htsT⟩ (cM_add l D M T (xs (x3 + 1).toNatClampNeg) ((((xs (x3 + 2).toNatClampNeg).toInt64) <<< ((32 : Int32).toInt64 &&& 63)) ||| (((xs (x3 + 3).toNatClampNeg).toInt64) &&& 4294967295))) (cwV 2 htsT (gL_M (idx := 29) (y := yX2_add) (cy := .code yX2_add cX2_add 4 (some .int)) (by decide +kernel) mw_54) rfl rfl rfl (by decide +kernel) ⟨Nat.le_of_ble_eq_true rfl, Nat.le_of_ble_eq_true rfl⟩) (xb_pv hP hK hD rfl rfl (md_a0 M)) rfl rfl hl.1 rfl (lv_room (Nat.le_of_ble_eq_true rfl)) dL_law_246 ⟨Nat.le_of_ble_eq_true rfl, Nat.le_of_ble_eq_true rfl⟩) hD hS hA (fun r246 ws2 H locs hws2 hP hD hS => ?_)
  obtain ⟨Y, hr246⟩ := hws2
  have X := xd_move X (mdS_w Y) (xd_t0 X) (xd_t1 X)
  have Y := mdS_re Y
  refine lv_icmp_eq (tgt := 819) hx hb dL_law_249 (by decide) (fun c249 => ?_) (fun c249 => ?_)
  · exact kk _ _ ws2 H locs X Y hP hD hS
  · exact absurd (hr217.trans hr246.symm) c249
set_option maxHeartbeats 4000000 in
set_option maxRecDepth 100000 in
theorem law_3 {p : Program} {l : Launch} {e : Env} {s : State} {m : MethodId} {below : List Frame} {meth : Method} {c : Code} {D : va_G} {b L : Nat} {xs : Nat → Int32} (hL : L ≤ 3584) (C0 : lw_At p s m meth c b L xs) {tys : xT} {ad adM : Nat → Nat} {cA cB : Nat → ClassId} {g : Nat → Option Nat} (hK : va_K D vwCl tys s) {i : Nat} {x3 : Int32} (hi7 : i + 7 ≤ L) (ex3 : x3 = nI i) {S : sS} {o : Int} {ws : va_W} {H : Heap} {locs : List Loc} {ls : Array Slot} (X : xd ws ws tys ad cA g S.1 S.2 o) (Y : mdS ws ws tys adM cB S) (hP : va_P D vwCl ws H) (hD : va_D (fun q : Nat => s.heap.size ≤ q) ws) (hS : va_S (fun q : Nat => s.heap.size ≤ q) s.heap H locs) (hl : lv_has ls 4 [(0, .ref b), (1, .ref (ad 0)), (2, .ref (adM 0)), (3, .int x3)])
    (kk : ∀ (S1 : sS) (o1 : Int) (ws1 : va_W) (H1 : Heap) (locs1 : List Loc), xd ws1 ws1 tys ad cA g S1.1 S1.2 o1 → mdS ws1 ws1 tys adM cB S1 → va_P D vwCl ws1 H1 → va_D (fun q : Nat => s.heap.size ≤ q) ws1 → va_S (fun q : Nat => s.heap.size ≤ q) s.heap H1 locs1 → W p l e room_1 s m #[Value.ref b] below meth c H1 locs1 18 531 (lw_Z below #[Value.ref b] s) (F0 m 819 ls [])) : W p l e room_1 s m #[Value.ref b] below meth c H locs 18 531 (lw_Z below #[Value.ref b] s) (F0 m 254 ls []) := by
  obtain ⟨hx, hb, hr, hml, hown, htsT, hX, hbl, hlocks, hgv⟩ := C0
  have hts : ∀ w ∈ wsL_law, w.before #[Value.ref b] s = true := fun w h => htsT w (wsL_law_in w h)
  have hA : ∀ q : Nat, s.heap.size ≤ q → (fun q : Nat => s.heap.size ≤ q) q := fun _ h => h
  have hbA : ¬ (fun q : Nat => s.heap.size ≤ q) b := Nat.not_le.mpr hbl
  refine lv_aload_n hx hb dL_law_254 rfl (lv_at hl 1 rfl) ?_
  refine lv_aload_n hx hb dL_law_255 rfl (lv_at hl 0 rfl) ?_
  refine lv_iload_n hx hb dL_law_256 rfl (lv_at hl 3 rfl) ?_
  refine lv_iconst (v := 1) hx hb dL_law_257 (by decide) ?_
  refine lv_iadd hx hb dL_law_258 ?_
  refine va_sld hx hb hX hbl hbA hS (lin (k := 1) ex3 hi7 (by decide) hL) dL_law_259 ?_
  refine lv_aload_n hx hb dL_law_260 rfl (lv_at hl 0 rfl) ?_
  refine lv_iload_n hx hb dL_law_261 rfl (lv_at hl 3 rfl) ?_
  refine lv_iconst (v := 2) hx hb dL_law_262 (by decide) ?_
  refine lv_iadd hx hb dL_law_263 ?_
  refine va_sld hx hb hX hbl hbA hS (lin (k := 2) ex3 hi7 (by decide) hL) dL_law_264 ?_
  refine lv_i2l hx hb dL_law_265 rfl ?_
  refine lv_bipush (v := 32) hx hb dL_law_266 (by decide) ?_
  refine lv_lshl hx hb dL_law_268 rfl ?_
  refine lv_aload_n hx hb dL_law_269 rfl (lv_at hl 0 rfl) ?_
  refine lv_iload_n hx hb dL_law_270 rfl (lv_at hl 3 rfl) ?_
  refine lv_iconst (v := 3) hx hb dL_law_271 (by decide) ?_
  refine lv_iadd hx hb dL_law_272 ?_
  refine va_sld hx hb hX hbl hbA hS (lin (k := 3) ex3 hi7 (by decide) hL) dL_law_273 ?_
  refine lv_i2l hx hb dL_law_274 rfl ?_
  refine lv_ldc2 (v := 4294967295) hx hb hown (htsT (.constantLong RL 13 (4294967295)) (by decide +kernel)) dL_law_275 ?_
  refine lv_land hx hb dL_law_278 ?_
  refine lv_lor hx hb dL_law_279 ?_
  refine xb_ri (va_runV (As := [.int (xs (x3 + 1).toNatClampNeg), .long ((((xs (x3 + 2).toNatClampNeg).toInt64) <<< ((32 : Int32).toInt64 &&& 63)) ||| (((xs (x3 + 3).toNatClampNeg).toInt64) &&& 4294967295))]) (rest := []) ⟨hx, hb, hml, hown, hts⟩ (cE_sub l D X (xs (x3 + 1).toNatClampNeg) ((((xs (x3 + 2).toNatClampNeg).toInt64) <<< ((32 : Int32).toInt64 &&& 63)) ||| (((xs (x3 + 3).toNatClampNeg).toInt64) &&& 4294967295))) (cwV 2 hts gL_law_X1_subtract rfl rfl rfl (by decide +kernel) ⟨Nat.le_of_ble_eq_true rfl, Nat.le_of_ble_eq_true rfl⟩) (xb_pv hP hK hD rfl rfl (xd_a0 X)) rfl rfl hl.1 rfl (lv_room (Nat.le_of_ble_eq_true rfl)) dL_law_280 ⟨Nat.le_of_ble_eq_true rfl, Nat.le_of_ble_eq_true rfl⟩) hD hS hA (fun r280 ws1 H locs hws1 hP hD hS => ?_)
  obtain ⟨o1, X, hr280⟩ := hws1
  have Y := mdS_move Y (xd_rest X)
  obtain ⟨tf, bf, fa, fb, fc, fr, ng, M, T⟩ := Y
  refine lv_aload_n hx hb dL_law_283 rfl (lv_at hl 2 rfl) ?_
  refine lv_aload_n hx hb dL_law_284 rfl (lv_at hl 0 rfl) ?_
  refine lv_iload_n hx hb dL_law_285 rfl (lv_at hl 3 rfl) ?_
  refine lv_iconst (v := 1) hx hb dL_law_286 (by decide) ?_
  refine lv_iadd hx hb dL_law_287 ?_
  refine va_sld hx hb hX hbl hbA hS (lin (k := 1) ex3 hi7 (by decide) hL) dL_law_288 ?_
  refine lv_aload_n hx hb dL_law_289 rfl (lv_at hl 0 rfl) ?_
  refine lv_iload_n hx hb dL_law_290 rfl (lv_at hl 3 rfl) ?_
  refine lv_iconst (v := 2) hx hb dL_law_291 (by decide) ?_
  refine lv_iadd hx hb dL_law_292 ?_
  refine va_sld hx hb hX hbl hbA hS (lin (k := 2) ex3 hi7 (by decide) hL) dL_law_293 ?_
  refine lv_i2l hx hb dL_law_294 rfl ?_
  refine lv_bipush (v := 32) hx hb dL_law_295 (by decide) ?_
  refine lv_lshl hx hb dL_law_297 rfl ?_
  refine lv_aload_n hx hb dL_law_298 rfl (lv_at hl 0 rfl) ?_
  refine lv_iload_n hx hb dL_law_299 rfl (lv_at hl 3 rfl) ?_
  refine lv_iconst (v := 3) hx hb dL_law_300 (by decide) ?_
  refine lv_iadd hx hb dL_law_301 ?_
  refine va_sld hx hb hX hbl hbA hS (lin (k := 3) ex3 hi7 (by decide) hL) dL_law_302 ?_
  refine lv_i2l hx hb dL_law_303 rfl ?_
  refine lv_ldc2 (v := 4294967295) hx hb hown (htsT (.constantLong RL 13 (4294967295)) (by decide +kernel)) dL_law_304 ?_
  refine lv_land hx hb dL_law_307 ?_
  refine lv_lor hx hb dL_law_308 ?_
  refine xb_ri (va_runV (As := [.int (xs (x3 + 1).toNatClampNeg), .long ((((xs (x3 + 2).toNatClampNeg).toInt64) <<< ((32 : Int32).toInt64 &&& 63)) ||| (((xs (x3 + 3).toNatClampNeg).toInt64) &&& 4294967295))]) (rest := [.int r280]) ⟨hx, hb, hml, hown, htsT⟩ (cM_sub l D M T (xs (x3 + 1).toNatClampNeg) ((((xs (x3 + 2).toNatClampNeg).toInt64) <<< ((32 : Int32).toInt64 &&& 63)) ||| (((xs (x3 + 3).toNatClampNeg).toInt64) &&& 4294967295))) (cwV 2 htsT (gL_M (idx := 33) (y := yX2_subtract) (cy := .code yX2_subtract cX2_subtract 4 (some .int)) (by decide +kernel) mw_63) rfl rfl rfl (by decide +kernel) ⟨Nat.le_of_ble_eq_true rfl, Nat.le_of_ble_eq_true rfl⟩) (xb_pv hP hK hD rfl rfl (md_a0 M)) rfl rfl hl.1 rfl (lv_room (Nat.le_of_ble_eq_true rfl)) dL_law_309 ⟨Nat.le_of_ble_eq_true rfl, Nat.le_of_ble_eq_true rfl⟩) hD hS hA (fun r309 ws2 H locs hws2 hP hD hS => ?_)
  obtain ⟨Y, hr309⟩ := hws2
  have X := xd_move X (mdS_w Y) (xd_t0 X) (xd_t1 X)
  have Y := mdS_re Y
  refine lv_icmp_eq (tgt := 819) hx hb dL_law_312 (by decide) (fun c312 => ?_) (fun c312 => ?_)
  · exact kk _ _ ws2 H locs X Y hP hD hS
  · exact absurd (hr280.trans hr309.symm) c312
set_option maxHeartbeats 4000000 in
set_option maxRecDepth 100000 in
theorem law_4 {p : Program} {l : Launch} {e : Env} {s : State} {m : MethodId} {below : List Frame} {meth : Method} {c : Code} {D : va_G} {b L : Nat} {xs : Nat → Int32} (hL : L ≤ 3584) (C0 : lw_At p s m meth c b L xs) {tys : xT} {ad adM : Nat → Nat} {cA cB : Nat → ClassId} {g : Nat → Option Nat} (hK : va_K D vwCl tys s) {i : Nat} {x3 : Int32} (hi7 : i + 7 ≤ L) (ex3 : x3 = nI i) {S : sS} {o : Int} {ws : va_W} {H : Heap} {locs : List Loc} {ls : Array Slot} (X : xd ws ws tys ad cA g S.1 S.2 o) (Y : mdS ws ws tys adM cB S) (hP : va_P D vwCl ws H) (hD : va_D (fun q : Nat => s.heap.size ≤ q) ws) (hS : va_S (fun q : Nat => s.heap.size ≤ q) s.heap H locs) (hl : lv_has ls 4 [(0, .ref b), (1, .ref (ad 0)), (2, .ref (adM 0)), (3, .int x3)])
    (kk : ∀ (S1 : sS) (o1 : Int) (ws1 : va_W) (H1 : Heap) (locs1 : List Loc), xd ws1 ws1 tys ad cA g S1.1 S1.2 o1 → mdS ws1 ws1 tys adM cB S1 → va_P D vwCl ws1 H1 → va_D (fun q : Nat => s.heap.size ≤ q) ws1 → va_S (fun q : Nat => s.heap.size ≤ q) s.heap H1 locs1 → W p l e room_1 s m #[Value.ref b] below meth c H1 locs1 18 531 (lw_Z below #[Value.ref b] s) (F0 m 819 ls [])) : W p l e room_1 s m #[Value.ref b] below meth c H locs 18 531 (lw_Z below #[Value.ref b] s) (F0 m 317 ls []) := by
  obtain ⟨hx, hb, hr, hml, hown, htsT, hX, hbl, hlocks, hgv⟩ := C0
  have hts : ∀ w ∈ wsL_law, w.before #[Value.ref b] s = true := fun w h => htsT w (wsL_law_in w h)
  have hA : ∀ q : Nat, s.heap.size ≤ q → (fun q : Nat => s.heap.size ≤ q) q := fun _ h => h
  have hbA : ¬ (fun q : Nat => s.heap.size ≤ q) b := Nat.not_le.mpr hbl
  refine lv_aload_n hx hb dL_law_317 rfl (lv_at hl 1 rfl) ?_
  refine lv_aload_n hx hb dL_law_318 rfl (lv_at hl 0 rfl) ?_
  refine lv_iload_n hx hb dL_law_319 rfl (lv_at hl 3 rfl) ?_
  refine lv_iconst (v := 1) hx hb dL_law_320 (by decide) ?_
  refine lv_iadd hx hb dL_law_321 ?_
  refine va_sld hx hb hX hbl hbA hS (lin (k := 1) ex3 hi7 (by decide) hL) dL_law_322 ?_
  refine lv_aload_n hx hb dL_law_323 rfl (lv_at hl 0 rfl) ?_
  refine lv_iload_n hx hb dL_law_324 rfl (lv_at hl 3 rfl) ?_
  refine lv_iconst (v := 2) hx hb dL_law_325 (by decide) ?_
  refine lv_iadd hx hb dL_law_326 ?_
  refine va_sld hx hb hX hbl hbA hS (lin (k := 2) ex3 hi7 (by decide) hL) dL_law_327 ?_
  refine lv_i2l hx hb dL_law_328 rfl ?_
  refine lv_bipush (v := 32) hx hb dL_law_329 (by decide) ?_
  refine lv_lshl hx hb dL_law_331 rfl ?_
  refine lv_aload_n hx hb dL_law_332 rfl (lv_at hl 0 rfl) ?_
  refine lv_iload_n hx hb dL_law_333 rfl (lv_at hl 3 rfl) ?_
  refine lv_iconst (v := 3) hx hb dL_law_334 (by decide) ?_
  refine lv_iadd hx hb dL_law_335 ?_
  refine va_sld hx hb hX hbl hbA hS (lin (k := 3) ex3 hi7 (by decide) hL) dL_law_336 ?_
  refine lv_i2l hx hb dL_law_337 rfl ?_
  refine lv_ldc2 (v := 4294967295) hx hb hown (htsT (.constantLong RL 13 (4294967295)) (by decide +kernel)) dL_law_338 ?_
  refine lv_land hx hb dL_law_341 ?_
  refine lv_lor hx hb dL_law_342 ?_
  refine xb_ri (va_runV (As := [.int (xs (x3 + 1).toNatClampNeg), .long ((((xs (x3 + 2).toNatClampNeg).toInt64) <<< ((32 : Int32).toInt64 &&& 63)) ||| (((xs (x3 + 3).toNatClampNeg).toInt64) &&& 4294967295))]) (rest := []) ⟨hx, hb, hml, hown, hts⟩ (cE_times l D X (xs (x3 + 1).toNatClampNeg) ((((xs (x3 + 2).toNatClampNeg).toInt64) <<< ((32 : Int32).toInt64 &&& 63)) ||| (((xs (x3 + 3).toNatClampNeg).toInt64) &&& 4294967295))) (cwV 2 hts gL_law_X1_times rfl rfl rfl (by decide +kernel) ⟨Nat.le_of_ble_eq_true rfl, Nat.le_of_ble_eq_true rfl⟩) (xb_pv hP hK hD rfl rfl (xd_a0 X)) rfl rfl hl.1 rfl (lv_room (Nat.le_of_ble_eq_true rfl)) dL_law_343 ⟨Nat.le_of_ble_eq_true rfl, Nat.le_of_ble_eq_true rfl⟩) hD hS hA (fun r343 ws1 H locs hws1 hP hD hS => ?_)
  obtain ⟨o1, X, hr343⟩ := hws1
  have Y := mdS_move Y (xd_rest X)
  obtain ⟨tf, bf, fa, fb, fc, fr, ng, M, T⟩ := Y
  refine lv_aload_n hx hb dL_law_346 rfl (lv_at hl 2 rfl) ?_
  refine lv_aload_n hx hb dL_law_347 rfl (lv_at hl 0 rfl) ?_
  refine lv_iload_n hx hb dL_law_348 rfl (lv_at hl 3 rfl) ?_
  refine lv_iconst (v := 1) hx hb dL_law_349 (by decide) ?_
  refine lv_iadd hx hb dL_law_350 ?_
  refine va_sld hx hb hX hbl hbA hS (lin (k := 1) ex3 hi7 (by decide) hL) dL_law_351 ?_
  refine lv_aload_n hx hb dL_law_352 rfl (lv_at hl 0 rfl) ?_
  refine lv_iload_n hx hb dL_law_353 rfl (lv_at hl 3 rfl) ?_
  refine lv_iconst (v := 2) hx hb dL_law_354 (by decide) ?_
  refine lv_iadd hx hb dL_law_355 ?_
  refine va_sld hx hb hX hbl hbA hS (lin (k := 2) ex3 hi7 (by decide) hL) dL_law_356 ?_
  refine lv_i2l hx hb dL_law_357 rfl ?_
  refine lv_bipush (v := 32) hx hb dL_law_358 (by decide) ?_
  refine lv_lshl hx hb dL_law_360 rfl ?_
  refine lv_aload_n hx hb dL_law_361 rfl (lv_at hl 0 rfl) ?_
  refine lv_iload_n hx hb dL_law_362 rfl (lv_at hl 3 rfl) ?_
  refine lv_iconst (v := 3) hx hb dL_law_363 (by decide) ?_
  refine lv_iadd hx hb dL_law_364 ?_
  refine va_sld hx hb hX hbl hbA hS (lin (k := 3) ex3 hi7 (by decide) hL) dL_law_365 ?_
  refine lv_i2l hx hb dL_law_366 rfl ?_
  refine lv_ldc2 (v := 4294967295) hx hb hown (htsT (.constantLong RL 13 (4294967295)) (by decide +kernel)) dL_law_367 ?_
  refine lv_land hx hb dL_law_370 ?_
  refine lv_lor hx hb dL_law_371 ?_
  refine xb_ri (va_runV (As := [.int (xs (x3 + 1).toNatClampNeg), .long ((((xs (x3 + 2).toNatClampNeg).toInt64) <<< ((32 : Int32).toInt64 &&& 63)) ||| (((xs (x3 + 3).toNatClampNeg).toInt64) &&& 4294967295))]) (rest := [.int r343]) ⟨hx, hb, hml, hown, htsT⟩ (cM_times l D M T (xs (x3 + 1).toNatClampNeg) ((((xs (x3 + 2).toNatClampNeg).toInt64) <<< ((32 : Int32).toInt64 &&& 63)) ||| (((xs (x3 + 3).toNatClampNeg).toInt64) &&& 4294967295))) (cwV 2 htsT (gL_M (idx := 37) (y := yX2_times) (cy := .code yX2_times cX2_times 4 (some .int)) (by decide +kernel) mw_64) rfl rfl rfl (by decide +kernel) ⟨Nat.le_of_ble_eq_true rfl, Nat.le_of_ble_eq_true rfl⟩) (xb_pv hP hK hD rfl rfl (md_a0 M)) rfl rfl hl.1 rfl (lv_room (Nat.le_of_ble_eq_true rfl)) dL_law_372 ⟨Nat.le_of_ble_eq_true rfl, Nat.le_of_ble_eq_true rfl⟩) hD hS hA (fun r372 ws2 H locs hws2 hP hD hS => ?_)
  obtain ⟨Y, hr372⟩ := hws2
  have X := xd_move X (mdS_w Y) (xd_t0 X) (xd_t1 X)
  have Y := mdS_re Y
  refine lv_icmp_eq (tgt := 819) hx hb dL_law_375 (by decide) (fun c375 => ?_) (fun c375 => ?_)
  · exact kk _ _ ws2 H locs X Y hP hD hS
  · exact absurd (hr343.trans hr372.symm) c375
set_option maxHeartbeats 4000000 in
set_option maxRecDepth 100000 in
theorem law_5 {p : Program} {l : Launch} {e : Env} {s : State} {m : MethodId} {below : List Frame} {meth : Method} {c : Code} {D : va_G} {b L : Nat} {xs : Nat → Int32} (hL : L ≤ 3584) (C0 : lw_At p s m meth c b L xs) {tys : xT} {ad adM : Nat → Nat} {cA cB : Nat → ClassId} {g : Nat → Option Nat} (hK : va_K D vwCl tys s) {i : Nat} {x3 : Int32} (hi7 : i + 7 ≤ L) (ex3 : x3 = nI i) {S : sS} {o : Int} {ws : va_W} {H : Heap} {locs : List Loc} {ls : Array Slot} (X : xd ws ws tys ad cA g S.1 S.2 o) (Y : mdS ws ws tys adM cB S) (hP : va_P D vwCl ws H) (hD : va_D (fun q : Nat => s.heap.size ≤ q) ws) (hS : va_S (fun q : Nat => s.heap.size ≤ q) s.heap H locs) (hl : lv_has ls 4 [(0, .ref b), (1, .ref (ad 0)), (2, .ref (adM 0)), (3, .int x3)])
    (kk : ∀ (S1 : sS) (o1 : Int) (ws1 : va_W) (H1 : Heap) (locs1 : List Loc), xd ws1 ws1 tys ad cA g S1.1 S1.2 o1 → mdS ws1 ws1 tys adM cB S1 → va_P D vwCl ws1 H1 → va_D (fun q : Nat => s.heap.size ≤ q) ws1 → va_S (fun q : Nat => s.heap.size ≤ q) s.heap H1 locs1 → W p l e room_1 s m #[Value.ref b] below meth c H1 locs1 18 531 (lw_Z below #[Value.ref b] s) (F0 m 819 ls [])) : W p l e room_1 s m #[Value.ref b] below meth c H locs 18 531 (lw_Z below #[Value.ref b] s) (F0 m 380 ls []) := by
  obtain ⟨hx, hb, hr, hml, hown, htsT, hX, hbl, hlocks, hgv⟩ := C0
  have hts : ∀ w ∈ wsL_law, w.before #[Value.ref b] s = true := fun w h => htsT w (wsL_law_in w h)
  have hA : ∀ q : Nat, s.heap.size ≤ q → (fun q : Nat => s.heap.size ≤ q) q := fun _ h => h
  have hbA : ¬ (fun q : Nat => s.heap.size ≤ q) b := Nat.not_le.mpr hbl
  refine lv_aload_n hx hb dL_law_380 rfl (lv_at hl 1 rfl) ?_
  refine lv_aload_n hx hb dL_law_381 rfl (lv_at hl 0 rfl) ?_
  refine lv_iload_n hx hb dL_law_382 rfl (lv_at hl 3 rfl) ?_
  refine lv_iconst (v := 1) hx hb dL_law_383 (by decide) ?_
  refine lv_iadd hx hb dL_law_384 ?_
  refine va_sld hx hb hX hbl hbA hS (lin (k := 1) ex3 hi7 (by decide) hL) dL_law_385 ?_
  refine lv_aload_n hx hb dL_law_386 rfl (lv_at hl 0 rfl) ?_
  refine lv_iload_n hx hb dL_law_387 rfl (lv_at hl 3 rfl) ?_
  refine lv_iconst (v := 2) hx hb dL_law_388 (by decide) ?_
  refine lv_iadd hx hb dL_law_389 ?_
  refine va_sld hx hb hX hbl hbA hS (lin (k := 2) ex3 hi7 (by decide) hL) dL_law_390 ?_
  refine lv_i2l hx hb dL_law_391 rfl ?_
  refine lv_bipush (v := 32) hx hb dL_law_392 (by decide) ?_
  refine lv_lshl hx hb dL_law_394 rfl ?_
  refine lv_aload_n hx hb dL_law_395 rfl (lv_at hl 0 rfl) ?_
  refine lv_iload_n hx hb dL_law_396 rfl (lv_at hl 3 rfl) ?_
  refine lv_iconst (v := 3) hx hb dL_law_397 (by decide) ?_
  refine lv_iadd hx hb dL_law_398 ?_
  refine va_sld hx hb hX hbl hbA hS (lin (k := 3) ex3 hi7 (by decide) hL) dL_law_399 ?_
  refine lv_i2l hx hb dL_law_400 rfl ?_
  refine lv_ldc2 (v := 4294967295) hx hb hown (htsT (.constantLong RL 13 (4294967295)) (by decide +kernel)) dL_law_401 ?_
  refine lv_land hx hb dL_law_404 ?_
  refine lv_lor hx hb dL_law_405 ?_
  refine lv_aload_n hx hb dL_law_406 rfl (lv_at hl 0 rfl) ?_
  refine lv_iload_n hx hb dL_law_407 rfl (lv_at hl 3 rfl) ?_
  refine lv_iconst (v := 4) hx hb dL_law_408 (by decide) ?_
  refine lv_iadd hx hb dL_law_409 ?_
  refine va_sld hx hb hX hbl hbA hS (lin (k := 4) ex3 hi7 (by decide) hL) dL_law_410 ?_
  refine lv_i2l hx hb dL_law_411 rfl ?_
  refine lv_bipush (v := 32) hx hb dL_law_412 (by decide) ?_
  refine lv_lshl hx hb dL_law_414 rfl ?_
  refine lv_aload_n hx hb dL_law_415 rfl (lv_at hl 0 rfl) ?_
  refine lv_iload_n hx hb dL_law_416 rfl (lv_at hl 3 rfl) ?_
  refine lv_iconst (v := 5) hx hb dL_law_417 (by decide) ?_
  refine lv_iadd hx hb dL_law_418 ?_
  refine va_sld hx hb hX hbl hbA hS (lin (k := 5) ex3 hi7 (by decide) hL) dL_law_419 ?_
  refine lv_i2l hx hb dL_law_420 rfl ?_
  refine lv_ldc2 (v := 4294967295) hx hb hown (htsT (.constantLong RL 13 (4294967295)) (by decide +kernel)) dL_law_421 ?_
  refine lv_land hx hb dL_law_424 ?_
  refine lv_lor hx hb dL_law_425 ?_
  refine lv_aload_n hx hb dL_law_426 rfl (lv_at hl 0 rfl) ?_
  refine lv_iload_n hx hb dL_law_427 rfl (lv_at hl 3 rfl) ?_
  refine lv_bipush (v := 6) hx hb dL_law_428 (by decide) ?_
  refine lv_iadd hx hb dL_law_430 ?_
  refine va_sld hx hb hX hbl hbA hS (lin (k := 6) ex3 hi7 (by decide) hL) dL_law_431 ?_
  refine xb_ri (va_runV (As := [.int (xs (x3 + 1).toNatClampNeg), .long ((((xs (x3 + 2).toNatClampNeg).toInt64) <<< ((32 : Int32).toInt64 &&& 63)) ||| (((xs (x3 + 3).toNatClampNeg).toInt64) &&& 4294967295)), .long ((((xs (x3 + 4).toNatClampNeg).toInt64) <<< ((32 : Int32).toInt64 &&& 63)) ||| (((xs (x3 + 5).toNatClampNeg).toInt64) &&& 4294967295)), .int (xs (x3 + 6).toNatClampNeg)]) (rest := []) ⟨hx, hb, hml, hown, hts⟩ (cE_share l D X (xs (x3 + 1).toNatClampNeg) ((((xs (x3 + 2).toNatClampNeg).toInt64) <<< ((32 : Int32).toInt64 &&& 63)) ||| (((xs (x3 + 3).toNatClampNeg).toInt64) &&& 4294967295)) ((((xs (x3 + 4).toNatClampNeg).toInt64) <<< ((32 : Int32).toInt64 &&& 63)) ||| (((xs (x3 + 5).toNatClampNeg).toInt64) &&& 4294967295)) (xs (x3 + 6).toNatClampNeg)) (cwV 4 hts gL_law_X1_share rfl rfl rfl (by decide +kernel) ⟨Nat.le_of_ble_eq_true rfl, Nat.le_of_ble_eq_true rfl⟩) (xb_pv hP hK hD rfl rfl (xd_a0 X)) rfl rfl hl.1 rfl (lv_room (Nat.le_of_ble_eq_true rfl)) dL_law_432 ⟨Nat.le_of_ble_eq_true rfl, Nat.le_of_ble_eq_true rfl⟩) hD hS hA (fun r432 ws1 H locs hws1 hP hD hS => ?_)
  obtain ⟨o1, X, hr432⟩ := hws1
  have Y := mdS_move Y (xd_rest X)
  obtain ⟨tf, bf, fa, fb, fc, fr, ng, M, T⟩ := Y
  refine lv_aload_n hx hb dL_law_435 rfl (lv_at hl 2 rfl) ?_
  refine lv_aload_n hx hb dL_law_436 rfl (lv_at hl 0 rfl) ?_
  refine lv_iload_n hx hb dL_law_437 rfl (lv_at hl 3 rfl) ?_
  refine lv_iconst (v := 1) hx hb dL_law_438 (by decide) ?_
  refine lv_iadd hx hb dL_law_439 ?_
  refine va_sld hx hb hX hbl hbA hS (lin (k := 1) ex3 hi7 (by decide) hL) dL_law_440 ?_
  refine lv_aload_n hx hb dL_law_441 rfl (lv_at hl 0 rfl) ?_
  refine lv_iload_n hx hb dL_law_442 rfl (lv_at hl 3 rfl) ?_
  refine lv_iconst (v := 2) hx hb dL_law_443 (by decide) ?_
  refine lv_iadd hx hb dL_law_444 ?_
  refine va_sld hx hb hX hbl hbA hS (lin (k := 2) ex3 hi7 (by decide) hL) dL_law_445 ?_
  refine lv_i2l hx hb dL_law_446 rfl ?_
  refine lv_bipush (v := 32) hx hb dL_law_447 (by decide) ?_
  refine lv_lshl hx hb dL_law_449 rfl ?_
  refine lv_aload_n hx hb dL_law_450 rfl (lv_at hl 0 rfl) ?_
  refine lv_iload_n hx hb dL_law_451 rfl (lv_at hl 3 rfl) ?_
  refine lv_iconst (v := 3) hx hb dL_law_452 (by decide) ?_
  refine lv_iadd hx hb dL_law_453 ?_
  refine va_sld hx hb hX hbl hbA hS (lin (k := 3) ex3 hi7 (by decide) hL) dL_law_454 ?_
  refine lv_i2l hx hb dL_law_455 rfl ?_
  refine lv_ldc2 (v := 4294967295) hx hb hown (htsT (.constantLong RL 13 (4294967295)) (by decide +kernel)) dL_law_456 ?_
  refine lv_land hx hb dL_law_459 ?_
  refine lv_lor hx hb dL_law_460 ?_
  refine lv_aload_n hx hb dL_law_461 rfl (lv_at hl 0 rfl) ?_
  refine lv_iload_n hx hb dL_law_462 rfl (lv_at hl 3 rfl) ?_
  refine lv_iconst (v := 4) hx hb dL_law_463 (by decide) ?_
  refine lv_iadd hx hb dL_law_464 ?_
  refine va_sld hx hb hX hbl hbA hS (lin (k := 4) ex3 hi7 (by decide) hL) dL_law_465 ?_
  refine lv_i2l hx hb dL_law_466 rfl ?_
  refine lv_bipush (v := 32) hx hb dL_law_467 (by decide) ?_
  refine lv_lshl hx hb dL_law_469 rfl ?_
  refine lv_aload_n hx hb dL_law_470 rfl (lv_at hl 0 rfl) ?_
  refine lv_iload_n hx hb dL_law_471 rfl (lv_at hl 3 rfl) ?_
  refine lv_iconst (v := 5) hx hb dL_law_472 (by decide) ?_
  refine lv_iadd hx hb dL_law_473 ?_
  refine va_sld hx hb hX hbl hbA hS (lin (k := 5) ex3 hi7 (by decide) hL) dL_law_474 ?_
  refine lv_i2l hx hb dL_law_475 rfl ?_
  refine lv_ldc2 (v := 4294967295) hx hb hown (htsT (.constantLong RL 13 (4294967295)) (by decide +kernel)) dL_law_476 ?_
  refine lv_land hx hb dL_law_479 ?_
  refine lv_lor hx hb dL_law_480 ?_
  refine lv_aload_n hx hb dL_law_481 rfl (lv_at hl 0 rfl) ?_
  refine lv_iload_n hx hb dL_law_482 rfl (lv_at hl 3 rfl) ?_
  refine lv_bipush (v := 6) hx hb dL_law_483 (by decide) ?_
  refine lv_iadd hx hb dL_law_485 ?_
  refine va_sld hx hb hX hbl hbA hS (lin (k := 6) ex3 hi7 (by decide) hL) dL_law_486 ?_
  refine xb_ri (va_runV (As := [.int (xs (x3 + 1).toNatClampNeg), .long ((((xs (x3 + 2).toNatClampNeg).toInt64) <<< ((32 : Int32).toInt64 &&& 63)) ||| (((xs (x3 + 3).toNatClampNeg).toInt64) &&& 4294967295)), .long ((((xs (x3 + 4).toNatClampNeg).toInt64) <<< ((32 : Int32).toInt64 &&& 63)) ||| (((xs (x3 + 5).toNatClampNeg).toInt64) &&& 4294967295)), .int (xs (x3 + 6).toNatClampNeg)]) (rest := [.int r432]) ⟨hx, hb, hml, hown, htsT⟩ (cM_share l D M T (xs (x3 + 1).toNatClampNeg) ((((xs (x3 + 2).toNatClampNeg).toInt64) <<< ((32 : Int32).toInt64 &&& 63)) ||| (((xs (x3 + 3).toNatClampNeg).toInt64) &&& 4294967295)) ((((xs (x3 + 4).toNatClampNeg).toInt64) <<< ((32 : Int32).toInt64 &&& 63)) ||| (((xs (x3 + 5).toNatClampNeg).toInt64) &&& 4294967295)) (xs (x3 + 6).toNatClampNeg)) (cwV 4 htsT (gL_M (idx := 42) (y := yX2_share) (cy := .code yX2_share cX2_share 9 (some .int)) (by decide +kernel) mw_67) rfl rfl rfl (by decide +kernel) ⟨Nat.le_of_ble_eq_true rfl, Nat.le_of_ble_eq_true rfl⟩) (xb_pv hP hK hD rfl rfl (md_a0 M)) rfl rfl hl.1 rfl (lv_room (Nat.le_of_ble_eq_true rfl)) dL_law_487 ⟨Nat.le_of_ble_eq_true rfl, Nat.le_of_ble_eq_true rfl⟩) hD hS hA (fun r487 ws2 H locs hws2 hP hD hS => ?_)
  obtain ⟨Y, hr487⟩ := hws2
  have X := xd_move X (mdS_w Y) (xd_t0 X) (xd_t1 X)
  have Y := mdS_re Y
  refine lv_icmp_eq (tgt := 819) hx hb dL_law_490 (by decide) (fun c490 => ?_) (fun c490 => ?_)
  · exact kk _ _ ws2 H locs X Y hP hD hS
  · exact absurd (hr432.trans hr487.symm) c490
set_option maxHeartbeats 4000000 in
set_option maxRecDepth 100000 in
theorem law_6 {p : Program} {l : Launch} {e : Env} {s : State} {m : MethodId} {below : List Frame} {meth : Method} {c : Code} {D : va_G} {b L : Nat} {xs : Nat → Int32} (hL : L ≤ 3584) (C0 : lw_At p s m meth c b L xs) {tys : xT} {ad adM : Nat → Nat} {cA cB : Nat → ClassId} {g : Nat → Option Nat} (hK : va_K D vwCl tys s) {i : Nat} {x3 : Int32} (hi7 : i + 7 ≤ L) (ex3 : x3 = nI i) {S : sS} {o : Int} {ws : va_W} {H : Heap} {locs : List Loc} {ls : Array Slot} (X : xd ws ws tys ad cA g S.1 S.2 o) (Y : mdS ws ws tys adM cB S) (hP : va_P D vwCl ws H) (hD : va_D (fun q : Nat => s.heap.size ≤ q) ws) (hS : va_S (fun q : Nat => s.heap.size ≤ q) s.heap H locs) (hl : lv_has ls 4 [(0, .ref b), (1, .ref (ad 0)), (2, .ref (adM 0)), (3, .int x3)])
    (kk : ∀ (S1 : sS) (o1 : Int) (ws1 : va_W) (H1 : Heap) (locs1 : List Loc), xd ws1 ws1 tys ad cA g S1.1 S1.2 o1 → mdS ws1 ws1 tys adM cB S1 → va_P D vwCl ws1 H1 → va_D (fun q : Nat => s.heap.size ≤ q) ws1 → va_S (fun q : Nat => s.heap.size ≤ q) s.heap H1 locs1 → W p l e room_1 s m #[Value.ref b] below meth c H1 locs1 18 531 (lw_Z below #[Value.ref b] s) (F0 m 819 ls [])) : W p l e room_1 s m #[Value.ref b] below meth c H locs 18 531 (lw_Z below #[Value.ref b] s) (F0 m 495 ls []) := by
  obtain ⟨hx, hb, hr, hml, hown, htsT, hX, hbl, hlocks, hgv⟩ := C0
  have hts : ∀ w ∈ wsL_law, w.before #[Value.ref b] s = true := fun w h => htsT w (wsL_law_in w h)
  have hA : ∀ q : Nat, s.heap.size ≤ q → (fun q : Nat => s.heap.size ≤ q) q := fun _ h => h
  have hbA : ¬ (fun q : Nat => s.heap.size ≤ q) b := Nat.not_le.mpr hbl
  refine lv_aload_n hx hb dL_law_495 rfl (lv_at hl 1 rfl) ?_
  refine lv_aload_n hx hb dL_law_496 rfl (lv_at hl 0 rfl) ?_
  refine lv_iload_n hx hb dL_law_497 rfl (lv_at hl 3 rfl) ?_
  refine lv_iconst (v := 1) hx hb dL_law_498 (by decide) ?_
  refine lv_iadd hx hb dL_law_499 ?_
  refine va_sld hx hb hX hbl hbA hS (lin (k := 1) ex3 hi7 (by decide) hL) dL_law_500 ?_
  refine lv_aload_n hx hb dL_law_501 rfl (lv_at hl 0 rfl) ?_
  refine lv_iload_n hx hb dL_law_502 rfl (lv_at hl 3 rfl) ?_
  refine lv_iconst (v := 2) hx hb dL_law_503 (by decide) ?_
  refine lv_iadd hx hb dL_law_504 ?_
  refine va_sld hx hb hX hbl hbA hS (lin (k := 2) ex3 hi7 (by decide) hL) dL_law_505 ?_
  refine lv_aload_n hx hb dL_law_506 rfl (lv_at hl 0 rfl) ?_
  refine lv_iload_n hx hb dL_law_507 rfl (lv_at hl 3 rfl) ?_
  refine lv_iconst (v := 3) hx hb dL_law_508 (by decide) ?_
  refine lv_iadd hx hb dL_law_509 ?_
  refine va_sld hx hb hX hbl hbA hS (lin (k := 3) ex3 hi7 (by decide) hL) dL_law_510 ?_
  refine lv_i2l hx hb dL_law_511 rfl ?_
  refine lv_bipush (v := 32) hx hb dL_law_512 (by decide) ?_
  refine lv_lshl hx hb dL_law_514 rfl ?_
  refine lv_aload_n hx hb dL_law_515 rfl (lv_at hl 0 rfl) ?_
  refine lv_iload_n hx hb dL_law_516 rfl (lv_at hl 3 rfl) ?_
  refine lv_iconst (v := 4) hx hb dL_law_517 (by decide) ?_
  refine lv_iadd hx hb dL_law_518 ?_
  refine va_sld hx hb hX hbl hbA hS (lin (k := 4) ex3 hi7 (by decide) hL) dL_law_519 ?_
  refine lv_i2l hx hb dL_law_520 rfl ?_
  refine lv_ldc2 (v := 4294967295) hx hb hown (htsT (.constantLong RL 13 (4294967295)) (by decide +kernel)) dL_law_521 ?_
  refine lv_land hx hb dL_law_524 ?_
  refine lv_lor hx hb dL_law_525 ?_
  refine xb_ri (va_runV (As := [.int (xs (x3 + 1).toNatClampNeg), .int (xs (x3 + 2).toNatClampNeg), .long ((((xs (x3 + 3).toNatClampNeg).toInt64) <<< ((32 : Int32).toInt64 &&& 63)) ||| (((xs (x3 + 4).toNatClampNeg).toInt64) &&& 4294967295))]) (rest := []) ⟨hx, hb, hml, hown, hts⟩ (cE_enter l D X (xs (x3 + 1).toNatClampNeg) (xs (x3 + 2).toNatClampNeg) ((((xs (x3 + 3).toNatClampNeg).toInt64) <<< ((32 : Int32).toInt64 &&& 63)) ||| (((xs (x3 + 4).toNatClampNeg).toInt64) &&& 4294967295))) (cwV 3 hts gL_law_X1_enter rfl rfl rfl (by decide +kernel) ⟨Nat.le_of_ble_eq_true rfl, Nat.le_of_ble_eq_true rfl⟩) (xb_pv hP hK hD rfl rfl (xd_a0 X)) rfl rfl hl.1 rfl (lv_room (Nat.le_of_ble_eq_true rfl)) dL_law_526 ⟨Nat.le_of_ble_eq_true rfl, Nat.le_of_ble_eq_true rfl⟩) hD hS hA (fun r526 ws1 H locs hws1 hP hD hS => ?_)
  obtain ⟨o1, X, hr526⟩ := hws1
  have Y := mdS_move Y (xd_rest X)
  obtain ⟨tf, bf, fa, fb, fc, fr, ng, M, T⟩ := Y
  refine lv_aload_n hx hb dL_law_529 rfl (lv_at hl 2 rfl) ?_
  refine lv_aload_n hx hb dL_law_530 rfl (lv_at hl 0 rfl) ?_
  refine lv_iload_n hx hb dL_law_531 rfl (lv_at hl 3 rfl) ?_
  refine lv_iconst (v := 1) hx hb dL_law_532 (by decide) ?_
  refine lv_iadd hx hb dL_law_533 ?_
  refine va_sld hx hb hX hbl hbA hS (lin (k := 1) ex3 hi7 (by decide) hL) dL_law_534 ?_
  refine lv_aload_n hx hb dL_law_535 rfl (lv_at hl 0 rfl) ?_
  refine lv_iload_n hx hb dL_law_536 rfl (lv_at hl 3 rfl) ?_
  refine lv_iconst (v := 2) hx hb dL_law_537 (by decide) ?_
  refine lv_iadd hx hb dL_law_538 ?_
  refine va_sld hx hb hX hbl hbA hS (lin (k := 2) ex3 hi7 (by decide) hL) dL_law_539 ?_
  refine lv_aload_n hx hb dL_law_540 rfl (lv_at hl 0 rfl) ?_
  refine lv_iload_n hx hb dL_law_541 rfl (lv_at hl 3 rfl) ?_
  refine lv_iconst (v := 3) hx hb dL_law_542 (by decide) ?_
  refine lv_iadd hx hb dL_law_543 ?_
  refine va_sld hx hb hX hbl hbA hS (lin (k := 3) ex3 hi7 (by decide) hL) dL_law_544 ?_
  refine lv_i2l hx hb dL_law_545 rfl ?_
  refine lv_bipush (v := 32) hx hb dL_law_546 (by decide) ?_
  refine lv_lshl hx hb dL_law_548 rfl ?_
  refine lv_aload_n hx hb dL_law_549 rfl (lv_at hl 0 rfl) ?_
  refine lv_iload_n hx hb dL_law_550 rfl (lv_at hl 3 rfl) ?_
  refine lv_iconst (v := 4) hx hb dL_law_551 (by decide) ?_
  refine lv_iadd hx hb dL_law_552 ?_
  refine va_sld hx hb hX hbl hbA hS (lin (k := 4) ex3 hi7 (by decide) hL) dL_law_553 ?_
  refine lv_i2l hx hb dL_law_554 rfl ?_
  refine lv_ldc2 (v := 4294967295) hx hb hown (htsT (.constantLong RL 13 (4294967295)) (by decide +kernel)) dL_law_555 ?_
  refine lv_land hx hb dL_law_558 ?_
  refine lv_lor hx hb dL_law_559 ?_
  refine xb_ri (va_runV (As := [.int (xs (x3 + 1).toNatClampNeg), .int (xs (x3 + 2).toNatClampNeg), .long ((((xs (x3 + 3).toNatClampNeg).toInt64) <<< ((32 : Int32).toInt64 &&& 63)) ||| (((xs (x3 + 4).toNatClampNeg).toInt64) &&& 4294967295))]) (rest := [.int r526]) ⟨hx, hb, hml, hown, htsT⟩ (cM_enter l D M T (xs (x3 + 1).toNatClampNeg) (xs (x3 + 2).toNatClampNeg) ((((xs (x3 + 3).toNatClampNeg).toInt64) <<< ((32 : Int32).toInt64 &&& 63)) ||| (((xs (x3 + 4).toNatClampNeg).toInt64) &&& 4294967295))) (cwV 3 htsT (gL_M (idx := 47) (y := yX2_enter) (cy := .code yX2_enter cX2_enter 5 (some .int)) (by decide +kernel) mw_70) rfl rfl rfl (by decide +kernel) ⟨Nat.le_of_ble_eq_true rfl, Nat.le_of_ble_eq_true rfl⟩) (xb_pv hP hK hD rfl rfl (md_a0 M)) rfl rfl hl.1 rfl (lv_room (Nat.le_of_ble_eq_true rfl)) dL_law_560 ⟨Nat.le_of_ble_eq_true rfl, Nat.le_of_ble_eq_true rfl⟩) hD hS hA (fun r560 ws2 H locs hws2 hP hD hS => ?_)
  obtain ⟨Y, hr560⟩ := hws2
  have X := xd_move X (mdS_w Y) (xd_t0 X) (xd_t1 X)
  have Y := mdS_re Y
  refine lv_icmp_eq (tgt := 819) hx hb dL_law_563 (by decide) (fun c563 => ?_) (fun c563 => ?_)
  · exact kk _ _ ws2 H locs X Y hP hD hS
  · exact absurd (hr526.trans hr560.symm) c563
set_option maxHeartbeats 4000000 in
set_option maxRecDepth 100000 in
theorem law_7 {p : Program} {l : Launch} {e : Env} {s : State} {m : MethodId} {below : List Frame} {meth : Method} {c : Code} {D : va_G} {b L : Nat} {xs : Nat → Int32} (hL : L ≤ 3584) (C0 : lw_At p s m meth c b L xs) {tys : xT} {ad adM : Nat → Nat} {cA cB : Nat → ClassId} {g : Nat → Option Nat} (hK : va_K D vwCl tys s) {i : Nat} {x3 : Int32} (hi7 : i + 7 ≤ L) (ex3 : x3 = nI i) {S : sS} {o : Int} {ws : va_W} {H : Heap} {locs : List Loc} {ls : Array Slot} (X : xd ws ws tys ad cA g S.1 S.2 o) (Y : mdS ws ws tys adM cB S) (hP : va_P D vwCl ws H) (hD : va_D (fun q : Nat => s.heap.size ≤ q) ws) (hS : va_S (fun q : Nat => s.heap.size ≤ q) s.heap H locs) (hl : lv_has ls 4 [(0, .ref b), (1, .ref (ad 0)), (2, .ref (adM 0)), (3, .int x3)])
    (kk : ∀ (S1 : sS) (o1 : Int) (ws1 : va_W) (H1 : Heap) (locs1 : List Loc), xd ws1 ws1 tys ad cA g S1.1 S1.2 o1 → mdS ws1 ws1 tys adM cB S1 → va_P D vwCl ws1 H1 → va_D (fun q : Nat => s.heap.size ≤ q) ws1 → va_S (fun q : Nat => s.heap.size ≤ q) s.heap H1 locs1 → W p l e room_1 s m #[Value.ref b] below meth c H1 locs1 18 531 (lw_Z below #[Value.ref b] s) (F0 m 819 ls [])) : W p l e room_1 s m #[Value.ref b] below meth c H locs 18 531 (lw_Z below #[Value.ref b] s) (F0 m 568 ls []) := by
  obtain ⟨hx, hb, hr, hml, hown, htsT, hX, hbl, hlocks, hgv⟩ := C0
  have hts : ∀ w ∈ wsL_law, w.before #[Value.ref b] s = true := fun w h => htsT w (wsL_law_in w h)
  have hA : ∀ q : Nat, s.heap.size ≤ q → (fun q : Nat => s.heap.size ≤ q) q := fun _ h => h
  have hbA : ¬ (fun q : Nat => s.heap.size ≤ q) b := Nat.not_le.mpr hbl
  refine lv_aload_n hx hb dL_law_568 rfl (lv_at hl 1 rfl) ?_
  refine lv_aload_n hx hb dL_law_569 rfl (lv_at hl 0 rfl) ?_
  refine lv_iload_n hx hb dL_law_570 rfl (lv_at hl 3 rfl) ?_
  refine lv_iconst (v := 1) hx hb dL_law_571 (by decide) ?_
  refine lv_iadd hx hb dL_law_572 ?_
  refine va_sld hx hb hX hbl hbA hS (lin (k := 1) ex3 hi7 (by decide) hL) dL_law_573 ?_
  refine lv_aload_n hx hb dL_law_574 rfl (lv_at hl 0 rfl) ?_
  refine lv_iload_n hx hb dL_law_575 rfl (lv_at hl 3 rfl) ?_
  refine lv_iconst (v := 2) hx hb dL_law_576 (by decide) ?_
  refine lv_iadd hx hb dL_law_577 ?_
  refine va_sld hx hb hX hbl hbA hS (lin (k := 2) ex3 hi7 (by decide) hL) dL_law_578 ?_
  refine xb_ri (va_runV (As := [.int (xs (x3 + 1).toNatClampNeg), .int (xs (x3 + 2).toNatClampNeg)]) (rest := []) ⟨hx, hb, hml, hown, hts⟩ (cE_merge l D X (xs (x3 + 1).toNatClampNeg) (xs (x3 + 2).toNatClampNeg)) (cwV 2 hts gL_law_X1_merge rfl rfl rfl (by decide +kernel) ⟨Nat.le_of_ble_eq_true rfl, Nat.le_of_ble_eq_true rfl⟩) (xb_pv hP hK hD rfl rfl (xd_a0 X)) rfl rfl hl.1 rfl (lv_room (Nat.le_of_ble_eq_true rfl)) dL_law_579 ⟨Nat.le_of_ble_eq_true rfl, Nat.le_of_ble_eq_true rfl⟩) hD hS hA (fun r579 ws1 H locs hws1 hP hD hS => ?_)
  obtain ⟨o1, X, hr579⟩ := hws1
  have Y := mdS_move Y (xd_rest X)
  obtain ⟨tf, bf, fa, fb, fc, fr, ng, M, T⟩ := Y
  refine lv_aload_n hx hb dL_law_582 rfl (lv_at hl 2 rfl) ?_
  refine lv_aload_n hx hb dL_law_583 rfl (lv_at hl 0 rfl) ?_
  refine lv_iload_n hx hb dL_law_584 rfl (lv_at hl 3 rfl) ?_
  refine lv_iconst (v := 1) hx hb dL_law_585 (by decide) ?_
  refine lv_iadd hx hb dL_law_586 ?_
  refine va_sld hx hb hX hbl hbA hS (lin (k := 1) ex3 hi7 (by decide) hL) dL_law_587 ?_
  refine lv_aload_n hx hb dL_law_588 rfl (lv_at hl 0 rfl) ?_
  refine lv_iload_n hx hb dL_law_589 rfl (lv_at hl 3 rfl) ?_
  refine lv_iconst (v := 2) hx hb dL_law_590 (by decide) ?_
  refine lv_iadd hx hb dL_law_591 ?_
  refine va_sld hx hb hX hbl hbA hS (lin (k := 2) ex3 hi7 (by decide) hL) dL_law_592 ?_
  refine xb_ri (va_runV (As := [.int (xs (x3 + 1).toNatClampNeg), .int (xs (x3 + 2).toNatClampNeg)]) (rest := [.int r579]) ⟨hx, hb, hml, hown, htsT⟩ (cM_merge l D M T (xs (x3 + 1).toNatClampNeg) (xs (x3 + 2).toNatClampNeg)) (cwV 2 htsT (gL_M (idx := 52) (y := yX2_merge) (cy := .code yX2_merge cX2_merge 3 (some .int)) (by decide +kernel) mw_74) rfl rfl rfl (by decide +kernel) ⟨Nat.le_of_ble_eq_true rfl, Nat.le_of_ble_eq_true rfl⟩) (xb_pv hP hK hD rfl rfl (md_a0 M)) rfl rfl hl.1 rfl (lv_room (Nat.le_of_ble_eq_true rfl)) dL_law_593 ⟨Nat.le_of_ble_eq_true rfl, Nat.le_of_ble_eq_true rfl⟩) hD hS hA (fun r593 ws2 H locs hws2 hP hD hS => ?_)
  obtain ⟨Y, hr593⟩ := hws2
  have X := xd_move X (mdS_w Y) (xd_t0 X) (xd_t1 X)
  have Y := mdS_re Y
  refine lv_icmp_eq (tgt := 819) hx hb dL_law_596 (by decide) (fun c596 => ?_) (fun c596 => ?_)
  · exact kk _ _ ws2 H locs X Y hP hD hS
  · exact absurd (hr579.trans hr593.symm) c596
set_option maxHeartbeats 4000000 in
set_option maxRecDepth 100000 in
theorem law_8 {p : Program} {l : Launch} {e : Env} {s : State} {m : MethodId} {below : List Frame} {meth : Method} {c : Code} {D : va_G} {b L : Nat} {xs : Nat → Int32} (hL : L ≤ 3584) (C0 : lw_At p s m meth c b L xs) {tys : xT} {ad adM : Nat → Nat} {cA cB : Nat → ClassId} {g : Nat → Option Nat} (hK : va_K D vwCl tys s) {i : Nat} {x3 : Int32} (hi7 : i + 7 ≤ L) (ex3 : x3 = nI i) {S : sS} {o : Int} {ws : va_W} {H : Heap} {locs : List Loc} {ls : Array Slot} (X : xd ws ws tys ad cA g S.1 S.2 o) (Y : mdS ws ws tys adM cB S) (hP : va_P D vwCl ws H) (hD : va_D (fun q : Nat => s.heap.size ≤ q) ws) (hS : va_S (fun q : Nat => s.heap.size ≤ q) s.heap H locs) (hl : lv_has ls 4 [(0, .ref b), (1, .ref (ad 0)), (2, .ref (adM 0)), (3, .int x3)])
    (kk : ∀ (S1 : sS) (o1 : Int) (ws1 : va_W) (H1 : Heap) (locs1 : List Loc), xd ws1 ws1 tys ad cA g S1.1 S1.2 o1 → mdS ws1 ws1 tys adM cB S1 → va_P D vwCl ws1 H1 → va_D (fun q : Nat => s.heap.size ≤ q) ws1 → va_S (fun q : Nat => s.heap.size ≤ q) s.heap H1 locs1 → W p l e room_1 s m #[Value.ref b] below meth c H1 locs1 18 531 (lw_Z below #[Value.ref b] s) (F0 m 819 ls [])) : W p l e room_1 s m #[Value.ref b] below meth c H locs 18 531 (lw_Z below #[Value.ref b] s) (F0 m 601 ls []) := by
  obtain ⟨hx, hb, hr, hml, hown, htsT, hX, hbl, hlocks, hgv⟩ := C0
  have hts : ∀ w ∈ wsL_law, w.before #[Value.ref b] s = true := fun w h => htsT w (wsL_law_in w h)
  have hA : ∀ q : Nat, s.heap.size ≤ q → (fun q : Nat => s.heap.size ≤ q) q := fun _ h => h
  have hbA : ¬ (fun q : Nat => s.heap.size ≤ q) b := Nat.not_le.mpr hbl
  refine lv_aload_n hx hb dL_law_601 rfl (lv_at hl 1 rfl) ?_
  refine lv_aload_n hx hb dL_law_602 rfl (lv_at hl 0 rfl) ?_
  refine lv_iload_n hx hb dL_law_603 rfl (lv_at hl 3 rfl) ?_
  refine lv_iconst (v := 1) hx hb dL_law_604 (by decide) ?_
  refine lv_iadd hx hb dL_law_605 ?_
  refine va_sld hx hb hX hbl hbA hS (lin (k := 1) ex3 hi7 (by decide) hL) dL_law_606 ?_
  refine lv_aload_n hx hb dL_law_607 rfl (lv_at hl 0 rfl) ?_
  refine lv_iload_n hx hb dL_law_608 rfl (lv_at hl 3 rfl) ?_
  refine lv_iconst (v := 2) hx hb dL_law_609 (by decide) ?_
  refine lv_iadd hx hb dL_law_610 ?_
  refine va_sld hx hb hX hbl hbA hS (lin (k := 2) ex3 hi7 (by decide) hL) dL_law_611 ?_
  refine lv_i2l hx hb dL_law_612 rfl ?_
  refine lv_bipush (v := 32) hx hb dL_law_613 (by decide) ?_
  refine lv_lshl hx hb dL_law_615 rfl ?_
  refine lv_aload_n hx hb dL_law_616 rfl (lv_at hl 0 rfl) ?_
  refine lv_iload_n hx hb dL_law_617 rfl (lv_at hl 3 rfl) ?_
  refine lv_iconst (v := 3) hx hb dL_law_618 (by decide) ?_
  refine lv_iadd hx hb dL_law_619 ?_
  refine va_sld hx hb hX hbl hbA hS (lin (k := 3) ex3 hi7 (by decide) hL) dL_law_620 ?_
  refine lv_i2l hx hb dL_law_621 rfl ?_
  refine lv_ldc2 (v := 4294967295) hx hb hown (htsT (.constantLong RL 13 (4294967295)) (by decide +kernel)) dL_law_622 ?_
  refine lv_land hx hb dL_law_625 ?_
  refine lv_lor hx hb dL_law_626 ?_
  refine lv_aload_n hx hb dL_law_627 rfl (lv_at hl 0 rfl) ?_
  refine lv_iload_n hx hb dL_law_628 rfl (lv_at hl 3 rfl) ?_
  refine lv_iconst (v := 4) hx hb dL_law_629 (by decide) ?_
  refine lv_iadd hx hb dL_law_630 ?_
  refine va_sld hx hb hX hbl hbA hS (lin (k := 4) ex3 hi7 (by decide) hL) dL_law_631 ?_
  refine xb_ri (va_runV (As := [.int (xs (x3 + 1).toNatClampNeg), .long ((((xs (x3 + 2).toNatClampNeg).toInt64) <<< ((32 : Int32).toInt64 &&& 63)) ||| (((xs (x3 + 3).toNatClampNeg).toInt64) &&& 4294967295)), .int (xs (x3 + 4).toNatClampNeg)]) (rest := []) ⟨hx, hb, hml, hown, hts⟩ (cE_split l D X (xs (x3 + 1).toNatClampNeg) ((((xs (x3 + 2).toNatClampNeg).toInt64) <<< ((32 : Int32).toInt64 &&& 63)) ||| (((xs (x3 + 3).toNatClampNeg).toInt64) &&& 4294967295)) (xs (x3 + 4).toNatClampNeg)) (cwV 3 hts gL_law_X1_split rfl rfl rfl (by decide +kernel) ⟨Nat.le_of_ble_eq_true rfl, Nat.le_of_ble_eq_true rfl⟩) (xb_pv hP hK hD rfl rfl (xd_a0 X)) rfl rfl hl.1 rfl (lv_room (Nat.le_of_ble_eq_true rfl)) dL_law_632 ⟨Nat.le_of_ble_eq_true rfl, Nat.le_of_ble_eq_true rfl⟩) hD hS hA (fun r632 ws1 H locs hws1 hP hD hS => ?_)
  obtain ⟨o1, X, hr632⟩ := hws1
  have Y := mdS_move Y (xd_rest X)
  obtain ⟨tf, bf, fa, fb, fc, fr, ng, M, T⟩ := Y
  refine lv_aload_n hx hb dL_law_635 rfl (lv_at hl 2 rfl) ?_
  refine lv_aload_n hx hb dL_law_636 rfl (lv_at hl 0 rfl) ?_
  refine lv_iload_n hx hb dL_law_637 rfl (lv_at hl 3 rfl) ?_
  refine lv_iconst (v := 1) hx hb dL_law_638 (by decide) ?_
  refine lv_iadd hx hb dL_law_639 ?_
  refine va_sld hx hb hX hbl hbA hS (lin (k := 1) ex3 hi7 (by decide) hL) dL_law_640 ?_
  refine lv_aload_n hx hb dL_law_641 rfl (lv_at hl 0 rfl) ?_
  refine lv_iload_n hx hb dL_law_642 rfl (lv_at hl 3 rfl) ?_
  refine lv_iconst (v := 2) hx hb dL_law_643 (by decide) ?_
  refine lv_iadd hx hb dL_law_644 ?_
  refine va_sld hx hb hX hbl hbA hS (lin (k := 2) ex3 hi7 (by decide) hL) dL_law_645 ?_
  refine lv_i2l hx hb dL_law_646 rfl ?_
  refine lv_bipush (v := 32) hx hb dL_law_647 (by decide) ?_
  refine lv_lshl hx hb dL_law_649 rfl ?_
  refine lv_aload_n hx hb dL_law_650 rfl (lv_at hl 0 rfl) ?_
  refine lv_iload_n hx hb dL_law_651 rfl (lv_at hl 3 rfl) ?_
  refine lv_iconst (v := 3) hx hb dL_law_652 (by decide) ?_
  refine lv_iadd hx hb dL_law_653 ?_
  refine va_sld hx hb hX hbl hbA hS (lin (k := 3) ex3 hi7 (by decide) hL) dL_law_654 ?_
  refine lv_i2l hx hb dL_law_655 rfl ?_
  refine lv_ldc2 (v := 4294967295) hx hb hown (htsT (.constantLong RL 13 (4294967295)) (by decide +kernel)) dL_law_656 ?_
  refine lv_land hx hb dL_law_659 ?_
  refine lv_lor hx hb dL_law_660 ?_
  refine lv_aload_n hx hb dL_law_661 rfl (lv_at hl 0 rfl) ?_
  refine lv_iload_n hx hb dL_law_662 rfl (lv_at hl 3 rfl) ?_
  refine lv_iconst (v := 4) hx hb dL_law_663 (by decide) ?_
  refine lv_iadd hx hb dL_law_664 ?_
  refine va_sld hx hb hX hbl hbA hS (lin (k := 4) ex3 hi7 (by decide) hL) dL_law_665 ?_
  refine xb_ri (va_runV (As := [.int (xs (x3 + 1).toNatClampNeg), .long ((((xs (x3 + 2).toNatClampNeg).toInt64) <<< ((32 : Int32).toInt64 &&& 63)) ||| (((xs (x3 + 3).toNatClampNeg).toInt64) &&& 4294967295)), .int (xs (x3 + 4).toNatClampNeg)]) (rest := [.int r632]) ⟨hx, hb, hml, hown, htsT⟩ (cM_split l D M T (xs (x3 + 1).toNatClampNeg) ((((xs (x3 + 2).toNatClampNeg).toInt64) <<< ((32 : Int32).toInt64 &&& 63)) ||| (((xs (x3 + 3).toNatClampNeg).toInt64) &&& 4294967295)) (xs (x3 + 4).toNatClampNeg)) (cwV 3 htsT (gL_M (idx := 57) (y := yX2_split) (cy := .code yX2_split cX2_split 8 (some .int)) (by decide +kernel) mw_75) rfl rfl rfl (by decide +kernel) ⟨Nat.le_of_ble_eq_true rfl, Nat.le_of_ble_eq_true rfl⟩) (xb_pv hP hK hD rfl rfl (md_a0 M)) rfl rfl hl.1 rfl (lv_room (Nat.le_of_ble_eq_true rfl)) dL_law_666 ⟨Nat.le_of_ble_eq_true rfl, Nat.le_of_ble_eq_true rfl⟩) hD hS hA (fun r666 ws2 H locs hws2 hP hD hS => ?_)
  obtain ⟨Y, hr666⟩ := hws2
  have X := xd_move X (mdS_w Y) (xd_t0 X) (xd_t1 X)
  have Y := mdS_re Y
  refine lv_icmp_eq (tgt := 819) hx hb dL_law_669 (by decide) (fun c669 => ?_) (fun c669 => ?_)
  · exact kk _ _ ws2 H locs X Y hP hD hS
  · exact absurd (hr632.trans hr666.symm) c669
set_option maxHeartbeats 4000000 in
set_option maxRecDepth 100000 in
theorem law_9 {p : Program} {l : Launch} {e : Env} {s : State} {m : MethodId} {below : List Frame} {meth : Method} {c : Code} {D : va_G} {b L : Nat} {xs : Nat → Int32} (hL : L ≤ 3584) (C0 : lw_At p s m meth c b L xs) {tys : xT} {ad adM : Nat → Nat} {cA cB : Nat → ClassId} {g : Nat → Option Nat} (hK : va_K D vwCl tys s) {i : Nat} {x3 : Int32} (hi7 : i + 7 ≤ L) (ex3 : x3 = nI i) {S : sS} {o : Int} {ws : va_W} {H : Heap} {locs : List Loc} {ls : Array Slot} (X : xd ws ws tys ad cA g S.1 S.2 o) (Y : mdS ws ws tys adM cB S) (hP : va_P D vwCl ws H) (hD : va_D (fun q : Nat => s.heap.size ≤ q) ws) (hS : va_S (fun q : Nat => s.heap.size ≤ q) s.heap H locs) (hl : lv_has ls 4 [(0, .ref b), (1, .ref (ad 0)), (2, .ref (adM 0)), (3, .int x3)])
    (kk : ∀ (S1 : sS) (o1 : Int) (ws1 : va_W) (H1 : Heap) (locs1 : List Loc), xd ws1 ws1 tys ad cA g S1.1 S1.2 o1 → mdS ws1 ws1 tys adM cB S1 → va_P D vwCl ws1 H1 → va_D (fun q : Nat => s.heap.size ≤ q) ws1 → va_S (fun q : Nat => s.heap.size ≤ q) s.heap H1 locs1 → W p l e room_1 s m #[Value.ref b] below meth c H1 locs1 18 531 (lw_Z below #[Value.ref b] s) (F0 m 819 ls [])) : W p l e room_1 s m #[Value.ref b] below meth c H locs 18 531 (lw_Z below #[Value.ref b] s) (F0 m 674 ls []) := by
  obtain ⟨hx, hb, hr, hml, hown, htsT, hX, hbl, hlocks, hgv⟩ := C0
  have hts : ∀ w ∈ wsL_law, w.before #[Value.ref b] s = true := fun w h => htsT w (wsL_law_in w h)
  have hA : ∀ q : Nat, s.heap.size ≤ q → (fun q : Nat => s.heap.size ≤ q) q := fun _ h => h
  have hbA : ¬ (fun q : Nat => s.heap.size ≤ q) b := Nat.not_le.mpr hbl
  refine lv_aload_n hx hb dL_law_674 rfl (lv_at hl 1 rfl) ?_
  refine lv_aload_n hx hb dL_law_675 rfl (lv_at hl 0 rfl) ?_
  refine lv_iload_n hx hb dL_law_676 rfl (lv_at hl 3 rfl) ?_
  refine lv_iconst (v := 1) hx hb dL_law_677 (by decide) ?_
  refine lv_iadd hx hb dL_law_678 ?_
  refine va_sld hx hb hX hbl hbA hS (lin (k := 1) ex3 hi7 (by decide) hL) dL_law_679 ?_
  refine lv_aload_n hx hb dL_law_680 rfl (lv_at hl 0 rfl) ?_
  refine lv_iload_n hx hb dL_law_681 rfl (lv_at hl 3 rfl) ?_
  refine lv_iconst (v := 2) hx hb dL_law_682 (by decide) ?_
  refine lv_iadd hx hb dL_law_683 ?_
  refine va_sld hx hb hX hbl hbA hS (lin (k := 2) ex3 hi7 (by decide) hL) dL_law_684 ?_
  refine xb_ri (va_runV (As := [.int (xs (x3 + 1).toNatClampNeg), .int (xs (x3 + 2).toNatClampNeg)]) (rest := []) ⟨hx, hb, hml, hown, hts⟩ (cE_take l D X (xs (x3 + 1).toNatClampNeg) (xs (x3 + 2).toNatClampNeg)) (cwV 2 hts gL_law_X1_take rfl rfl rfl (by decide +kernel) ⟨Nat.le_of_ble_eq_true rfl, Nat.le_of_ble_eq_true rfl⟩) (xb_pv hP hK hD rfl rfl (xd_a0 X)) rfl rfl hl.1 rfl (lv_room (Nat.le_of_ble_eq_true rfl)) dL_law_685 ⟨Nat.le_of_ble_eq_true rfl, Nat.le_of_ble_eq_true rfl⟩) hD hS hA (fun r685 ws1 H locs hws1 hP hD hS => ?_)
  obtain ⟨o1, X, hr685⟩ := hws1
  have Y := mdS_move Y (xd_rest X)
  obtain ⟨tf, bf, fa, fb, fc, fr, ng, M, T⟩ := Y
  refine lv_aload_n hx hb dL_law_688 rfl (lv_at hl 2 rfl) ?_
  refine lv_aload_n hx hb dL_law_689 rfl (lv_at hl 0 rfl) ?_
  refine lv_iload_n hx hb dL_law_690 rfl (lv_at hl 3 rfl) ?_
  refine lv_iconst (v := 1) hx hb dL_law_691 (by decide) ?_
  refine lv_iadd hx hb dL_law_692 ?_
  refine va_sld hx hb hX hbl hbA hS (lin (k := 1) ex3 hi7 (by decide) hL) dL_law_693 ?_
  refine lv_aload_n hx hb dL_law_694 rfl (lv_at hl 0 rfl) ?_
  refine lv_iload_n hx hb dL_law_695 rfl (lv_at hl 3 rfl) ?_
  refine lv_iconst (v := 2) hx hb dL_law_696 (by decide) ?_
  refine lv_iadd hx hb dL_law_697 ?_
  refine va_sld hx hb hX hbl hbA hS (lin (k := 2) ex3 hi7 (by decide) hL) dL_law_698 ?_
  refine xb_ri (va_runV (As := [.int (xs (x3 + 1).toNatClampNeg), .int (xs (x3 + 2).toNatClampNeg)]) (rest := [.int r685]) ⟨hx, hb, hml, hown, htsT⟩ (cM_take l D M T (xs (x3 + 1).toNatClampNeg) (xs (x3 + 2).toNatClampNeg)) (cwV 2 htsT (gL_M (idx := 61) (y := yX2_take) (cy := .code yX2_take cX2_take 3 (some .int)) (by decide +kernel) mw_76) rfl rfl rfl (by decide +kernel) ⟨Nat.le_of_ble_eq_true rfl, Nat.le_of_ble_eq_true rfl⟩) (xb_pv hP hK hD rfl rfl (md_a0 M)) rfl rfl hl.1 rfl (lv_room (Nat.le_of_ble_eq_true rfl)) dL_law_699 ⟨Nat.le_of_ble_eq_true rfl, Nat.le_of_ble_eq_true rfl⟩) hD hS hA (fun r699 ws2 H locs hws2 hP hD hS => ?_)
  obtain ⟨Y, hr699⟩ := hws2
  have X := xd_move X (mdS_w Y) (xd_t0 X) (xd_t1 X)
  have Y := mdS_re Y
  refine lv_icmp_eq (tgt := 819) hx hb dL_law_702 (by decide) (fun c702 => ?_) (fun c702 => ?_)
  · exact kk _ _ ws2 H locs X Y hP hD hS
  · exact absurd (hr685.trans hr699.symm) c702
set_option maxHeartbeats 4000000 in
set_option maxRecDepth 100000 in
theorem law_10 {p : Program} {l : Launch} {e : Env} {s : State} {m : MethodId} {below : List Frame} {meth : Method} {c : Code} {D : va_G} {b L : Nat} {xs : Nat → Int32} (hL : L ≤ 3584) (C0 : lw_At p s m meth c b L xs) {tys : xT} {ad adM : Nat → Nat} {cA cB : Nat → ClassId} {g : Nat → Option Nat} (hK : va_K D vwCl tys s) {i : Nat} {x3 : Int32} (hi7 : i + 7 ≤ L) (ex3 : x3 = nI i) {S : sS} {o : Int} {ws : va_W} {H : Heap} {locs : List Loc} {ls : Array Slot} (X : xd ws ws tys ad cA g S.1 S.2 o) (Y : mdS ws ws tys adM cB S) (hP : va_P D vwCl ws H) (hD : va_D (fun q : Nat => s.heap.size ≤ q) ws) (hS : va_S (fun q : Nat => s.heap.size ≤ q) s.heap H locs) (hl : lv_has ls 4 [(0, .ref b), (1, .ref (ad 0)), (2, .ref (adM 0)), (3, .int x3)])
    (kk : ∀ (S1 : sS) (o1 : Int) (ws1 : va_W) (H1 : Heap) (locs1 : List Loc), xd ws1 ws1 tys ad cA g S1.1 S1.2 o1 → mdS ws1 ws1 tys adM cB S1 → va_P D vwCl ws1 H1 → va_D (fun q : Nat => s.heap.size ≤ q) ws1 → va_S (fun q : Nat => s.heap.size ≤ q) s.heap H1 locs1 → W p l e room_1 s m #[Value.ref b] below meth c H1 locs1 18 531 (lw_Z below #[Value.ref b] s) (F0 m 819 ls [])) : W p l e room_1 s m #[Value.ref b] below meth c H locs 18 531 (lw_Z below #[Value.ref b] s) (F0 m 707 ls []) := by
  obtain ⟨hx, hb, hr, hml, hown, htsT, hX, hbl, hlocks, hgv⟩ := C0
  have hts : ∀ w ∈ wsL_law, w.before #[Value.ref b] s = true := fun w h => htsT w (wsL_law_in w h)
  have hA : ∀ q : Nat, s.heap.size ≤ q → (fun q : Nat => s.heap.size ≤ q) q := fun _ h => h
  have hbA : ¬ (fun q : Nat => s.heap.size ≤ q) b := Nat.not_le.mpr hbl
  refine lv_aload_n hx hb dL_law_707 rfl (lv_at hl 1 rfl) ?_
  refine lv_aload_n hx hb dL_law_708 rfl (lv_at hl 0 rfl) ?_
  refine lv_iload_n hx hb dL_law_709 rfl (lv_at hl 3 rfl) ?_
  refine lv_iconst (v := 1) hx hb dL_law_710 (by decide) ?_
  refine lv_iadd hx hb dL_law_711 ?_
  refine va_sld hx hb hX hbl hbA hS (lin (k := 1) ex3 hi7 (by decide) hL) dL_law_712 ?_
  refine xb_ri (va_runV (As := [.int (xs (x3 + 1).toNatClampNeg)]) (rest := []) ⟨hx, hb, hml, hown, hts⟩ (cE_clear l D X (xs (x3 + 1).toNatClampNeg)) (cwV 1 hts gL_law_X1_clear rfl rfl rfl (by decide +kernel) ⟨Nat.le_of_ble_eq_true rfl, Nat.le_of_ble_eq_true rfl⟩) (xb_pv hP hK hD rfl rfl (xd_a0 X)) rfl rfl hl.1 rfl (lv_room (Nat.le_of_ble_eq_true rfl)) dL_law_713 ⟨Nat.le_of_ble_eq_true rfl, Nat.le_of_ble_eq_true rfl⟩) hD hS hA (fun r713 ws1 H locs hws1 hP hD hS => ?_)
  obtain ⟨o1, X, hr713⟩ := hws1
  have Y := mdS_move Y (xd_rest X)
  obtain ⟨tf, bf, fa, fb, fc, fr, ng, M, T⟩ := Y
  refine lv_aload_n hx hb dL_law_716 rfl (lv_at hl 2 rfl) ?_
  refine lv_aload_n hx hb dL_law_717 rfl (lv_at hl 0 rfl) ?_
  refine lv_iload_n hx hb dL_law_718 rfl (lv_at hl 3 rfl) ?_
  refine lv_iconst (v := 1) hx hb dL_law_719 (by decide) ?_
  refine lv_iadd hx hb dL_law_720 ?_
  refine va_sld hx hb hX hbl hbA hS (lin (k := 1) ex3 hi7 (by decide) hL) dL_law_721 ?_
  refine xb_ri (va_runV (As := [.int (xs (x3 + 1).toNatClampNeg)]) (rest := [.int r713]) ⟨hx, hb, hml, hown, htsT⟩ (cM_clear l D M T (xs (x3 + 1).toNatClampNeg)) (cwV 1 htsT (gL_M (idx := 66) (y := yX2_clear) (cy := .code yX2_clear cX2_clear 3 (some .boolean)) (by decide +kernel) mw_77) rfl rfl rfl (by decide +kernel) ⟨Nat.le_of_ble_eq_true rfl, Nat.le_of_ble_eq_true rfl⟩) (xb_pv hP hK hD rfl rfl (md_a0 M)) rfl rfl hl.1 rfl (lv_room (Nat.le_of_ble_eq_true rfl)) dL_law_722 ⟨Nat.le_of_ble_eq_true rfl, Nat.le_of_ble_eq_true rfl⟩) hD hS hA (fun r722 ws2 H locs hws2 hP hD hS => ?_)
  obtain ⟨Y, hr722⟩ := hws2
  have X := xd_move X (mdS_w Y) (xd_t0 X) (xd_t1 X)
  have Y := mdS_re Y
  refine lv_icmp_eq (tgt := 819) hx hb dL_law_725 (by decide) (fun c725 => ?_) (fun c725 => ?_)
  · exact kk _ _ ws2 H locs X Y hP hD hS
  · exact absurd (hr713.trans hr722.symm) c725
set_option maxHeartbeats 4000000 in
set_option maxRecDepth 100000 in
theorem law_11 {p : Program} {l : Launch} {e : Env} {s : State} {m : MethodId} {below : List Frame} {meth : Method} {c : Code} {D : va_G} {b L : Nat} {xs : Nat → Int32} (hL : L ≤ 3584) (C0 : lw_At p s m meth c b L xs) {tys : xT} {ad adM : Nat → Nat} {cA cB : Nat → ClassId} {g : Nat → Option Nat} (hK : va_K D vwCl tys s) {i : Nat} {x3 : Int32} (hi7 : i + 7 ≤ L) (ex3 : x3 = nI i) {S : sS} {o : Int} {ws : va_W} {H : Heap} {locs : List Loc} {ls : Array Slot} (X : xd ws ws tys ad cA g S.1 S.2 o) (Y : mdS ws ws tys adM cB S) (hP : va_P D vwCl ws H) (hD : va_D (fun q : Nat => s.heap.size ≤ q) ws) (hS : va_S (fun q : Nat => s.heap.size ≤ q) s.heap H locs) (hl : lv_has ls 4 [(0, .ref b), (1, .ref (ad 0)), (2, .ref (adM 0)), (3, .int x3)])
    (kk : ∀ (S1 : sS) (o1 : Int) (ws1 : va_W) (H1 : Heap) (locs1 : List Loc), xd ws1 ws1 tys ad cA g S1.1 S1.2 o1 → mdS ws1 ws1 tys adM cB S1 → va_P D vwCl ws1 H1 → va_D (fun q : Nat => s.heap.size ≤ q) ws1 → va_S (fun q : Nat => s.heap.size ≤ q) s.heap H1 locs1 → W p l e room_1 s m #[Value.ref b] below meth c H1 locs1 18 531 (lw_Z below #[Value.ref b] s) (F0 m 819 ls [])) : W p l e room_1 s m #[Value.ref b] below meth c H locs 18 531 (lw_Z below #[Value.ref b] s) (F0 m 730 ls []) := by
  obtain ⟨hx, hb, hr, hml, hown, htsT, hX, hbl, hlocks, hgv⟩ := C0
  have hts : ∀ w ∈ wsL_law, w.before #[Value.ref b] s = true := fun w h => htsT w (wsL_law_in w h)
  have hA : ∀ q : Nat, s.heap.size ≤ q → (fun q : Nat => s.heap.size ≤ q) q := fun _ h => h
  have hbA : ¬ (fun q : Nat => s.heap.size ≤ q) b := Nat.not_le.mpr hbl
  refine lv_aload_n hx hb dL_law_730 rfl (lv_at hl 1 rfl) ?_
  refine lv_aload_n hx hb dL_law_731 rfl (lv_at hl 0 rfl) ?_
  refine lv_iload_n hx hb dL_law_732 rfl (lv_at hl 3 rfl) ?_
  refine lv_iconst (v := 1) hx hb dL_law_733 (by decide) ?_
  refine lv_iadd hx hb dL_law_734 ?_
  refine va_sld hx hb hX hbl hbA hS (lin (k := 1) ex3 hi7 (by decide) hL) dL_law_735 ?_
  refine lv_aload_n hx hb dL_law_736 rfl (lv_at hl 0 rfl) ?_
  refine lv_iload_n hx hb dL_law_737 rfl (lv_at hl 3 rfl) ?_
  refine lv_iconst (v := 2) hx hb dL_law_738 (by decide) ?_
  refine lv_iadd hx hb dL_law_739 ?_
  refine va_sld hx hb hX hbl hbA hS (lin (k := 2) ex3 hi7 (by decide) hL) dL_law_740 ?_
  refine xb_ri (va_runV (As := [.int (xs (x3 + 1).toNatClampNeg), .int (xs (x3 + 2).toNatClampNeg)]) (rest := []) ⟨hx, hb, hml, hown, hts⟩ (cE_cmp l D X (xs (x3 + 1).toNatClampNeg) (xs (x3 + 2).toNatClampNeg)) (cwV 2 hts gL_law_X1_compare rfl rfl rfl (by decide +kernel) ⟨Nat.le_of_ble_eq_true rfl, Nat.le_of_ble_eq_true rfl⟩) (xb_pv hP hK hD rfl rfl (xd_a0 X)) rfl rfl hl.1 rfl (lv_room (Nat.le_of_ble_eq_true rfl)) dL_law_741 ⟨Nat.le_of_ble_eq_true rfl, Nat.le_of_ble_eq_true rfl⟩) hD hS hA (fun r741 ws1 H locs hws1 hP hD hS => ?_)
  obtain ⟨X, hr741⟩ := hws1
  have Y := mdS_move Y (xd_rest X)
  obtain ⟨tf, bf, fa, fb, fc, fr, ng, M, T⟩ := Y
  refine lv_aload_n hx hb dL_law_744 rfl (lv_at hl 2 rfl) ?_
  refine lv_aload_n hx hb dL_law_745 rfl (lv_at hl 0 rfl) ?_
  refine lv_iload_n hx hb dL_law_746 rfl (lv_at hl 3 rfl) ?_
  refine lv_iconst (v := 1) hx hb dL_law_747 (by decide) ?_
  refine lv_iadd hx hb dL_law_748 ?_
  refine va_sld hx hb hX hbl hbA hS (lin (k := 1) ex3 hi7 (by decide) hL) dL_law_749 ?_
  refine lv_aload_n hx hb dL_law_750 rfl (lv_at hl 0 rfl) ?_
  refine lv_iload_n hx hb dL_law_751 rfl (lv_at hl 3 rfl) ?_
  refine lv_iconst (v := 2) hx hb dL_law_752 (by decide) ?_
  refine lv_iadd hx hb dL_law_753 ?_
  refine va_sld hx hb hX hbl hbA hS (lin (k := 2) ex3 hi7 (by decide) hL) dL_law_754 ?_
  refine xb_ri (va_runV (As := [.int (xs (x3 + 1).toNatClampNeg), .int (xs (x3 + 2).toNatClampNeg)]) (rest := [.int r741]) ⟨hx, hb, hml, hown, htsT⟩ (cM_cmp l D M T (xs (x3 + 1).toNatClampNeg) (xs (x3 + 2).toNatClampNeg)) (cwV 2 htsT (gL_M (idx := 70) (y := yX2_compare) (cy := .code yX2_compare cX2_compare 4 (some .int)) (by decide +kernel) mw_78) rfl rfl rfl (by decide +kernel) ⟨Nat.le_of_ble_eq_true rfl, Nat.le_of_ble_eq_true rfl⟩) (xb_pv hP hK hD rfl rfl (md_a0 M)) rfl rfl hl.1 rfl (lv_room (Nat.le_of_ble_eq_true rfl)) dL_law_755 ⟨Nat.le_of_ble_eq_true rfl, Nat.le_of_ble_eq_true rfl⟩) hD hS hA (fun r755 ws2 H locs hws2 hP hD hS => ?_)
  obtain ⟨Y, hr755⟩ := hws2
  have X := xd_move X (mdS_w Y) (xd_t0 X) (xd_t1 X)
  have Y := mdS_re Y
  refine lv_icmp_eq (tgt := 819) hx hb dL_law_758 (by decide) (fun c758 => ?_) (fun c758 => ?_)
  · exact kk _ _ ws2 H locs X Y hP hD hS
  · exact absurd (hr741.trans hr755.symm) c758
set_option maxHeartbeats 4000000 in
set_option maxRecDepth 100000 in
theorem law_12 {p : Program} {l : Launch} {e : Env} {s : State} {m : MethodId} {below : List Frame} {meth : Method} {c : Code} {D : va_G} {b L : Nat} {xs : Nat → Int32} (hL : L ≤ 3584) (C0 : lw_At p s m meth c b L xs) {tys : xT} {ad adM : Nat → Nat} {cA cB : Nat → ClassId} {g : Nat → Option Nat} (hK : va_K D vwCl tys s) {i : Nat} {x3 : Int32} (hi7 : i + 7 ≤ L) (ex3 : x3 = nI i) {S : sS} {o : Int} {ws : va_W} {H : Heap} {locs : List Loc} {ls : Array Slot} (X : xd ws ws tys ad cA g S.1 S.2 o) (Y : mdS ws ws tys adM cB S) (hP : va_P D vwCl ws H) (hD : va_D (fun q : Nat => s.heap.size ≤ q) ws) (hS : va_S (fun q : Nat => s.heap.size ≤ q) s.heap H locs) (hl : lv_has ls 4 [(0, .ref b), (1, .ref (ad 0)), (2, .ref (adM 0)), (3, .int x3)])
    (kk : ∀ (S1 : sS) (o1 : Int) (ws1 : va_W) (H1 : Heap) (locs1 : List Loc), xd ws1 ws1 tys ad cA g S1.1 S1.2 o1 → mdS ws1 ws1 tys adM cB S1 → va_P D vwCl ws1 H1 → va_D (fun q : Nat => s.heap.size ≤ q) ws1 → va_S (fun q : Nat => s.heap.size ≤ q) s.heap H1 locs1 → W p l e room_1 s m #[Value.ref b] below meth c H1 locs1 18 531 (lw_Z below #[Value.ref b] s) (F0 m 819 ls [])) : W p l e room_1 s m #[Value.ref b] below meth c H locs 18 531 (lw_Z below #[Value.ref b] s) (F0 m 763 ls []) := by
  obtain ⟨hx, hb, hr, hml, hown, htsT, hX, hbl, hlocks, hgv⟩ := C0
  have hts : ∀ w ∈ wsL_law, w.before #[Value.ref b] s = true := fun w h => htsT w (wsL_law_in w h)
  have hA : ∀ q : Nat, s.heap.size ≤ q → (fun q : Nat => s.heap.size ≤ q) q := fun _ h => h
  have hbA : ¬ (fun q : Nat => s.heap.size ≤ q) b := Nat.not_le.mpr hbl
  refine lv_aload_n hx hb dL_law_763 rfl (lv_at hl 1 rfl) ?_
  refine lv_aload_n hx hb dL_law_764 rfl (lv_at hl 0 rfl) ?_
  refine lv_iload_n hx hb dL_law_765 rfl (lv_at hl 3 rfl) ?_
  refine lv_iconst (v := 1) hx hb dL_law_766 (by decide) ?_
  refine lv_iadd hx hb dL_law_767 ?_
  refine va_sld hx hb hX hbl hbA hS (lin (k := 1) ex3 hi7 (by decide) hL) dL_law_768 ?_
  refine xb_ri (va_runV (As := [.int (xs (x3 + 1).toNatClampNeg)]) (rest := []) ⟨hx, hb, hml, hown, hts⟩ (cE_digits l D X (xs (x3 + 1).toNatClampNeg)) (cwV 1 hts gL_law_X1_digits rfl rfl rfl (by decide +kernel) ⟨Nat.le_of_ble_eq_true rfl, Nat.le_of_ble_eq_true rfl⟩) (xb_pv hP hK hD rfl rfl (xd_a0 X)) rfl rfl hl.1 rfl (lv_room (Nat.le_of_ble_eq_true rfl)) dL_law_769 ⟨Nat.le_of_ble_eq_true rfl, Nat.le_of_ble_eq_true rfl⟩) hD hS hA (fun r769 ws1 H locs hws1 hP hD hS => ?_)
  obtain ⟨⟨o1, X⟩, hr769⟩ := hws1
  have Y := mdS_move Y (xd_rest X)
  obtain ⟨tf, bf, fa, fb, fc, fr, ng, M, T⟩ := Y
  refine lv_aload_n hx hb dL_law_772 rfl (lv_at hl 2 rfl) ?_
  refine lv_aload_n hx hb dL_law_773 rfl (lv_at hl 0 rfl) ?_
  refine lv_iload_n hx hb dL_law_774 rfl (lv_at hl 3 rfl) ?_
  refine lv_iconst (v := 1) hx hb dL_law_775 (by decide) ?_
  refine lv_iadd hx hb dL_law_776 ?_
  refine va_sld hx hb hX hbl hbA hS (lin (k := 1) ex3 hi7 (by decide) hL) dL_law_777 ?_
  refine xb_ri (va_runV (As := [.int (xs (x3 + 1).toNatClampNeg)]) (rest := [.int r769]) ⟨hx, hb, hml, hown, htsT⟩ (cM_digits l D M T (xs (x3 + 1).toNatClampNeg)) (cwV 1 htsT (gL_M (idx := 75) (y := yX2_digits) (cy := .code yX2_digits cX2_digits 4 (some .int)) (by decide +kernel) mw_79) rfl rfl rfl (by decide +kernel) ⟨Nat.le_of_ble_eq_true rfl, Nat.le_of_ble_eq_true rfl⟩) (xb_pv hP hK hD rfl rfl (md_a0 M)) rfl rfl hl.1 rfl (lv_room (Nat.le_of_ble_eq_true rfl)) dL_law_778 ⟨Nat.le_of_ble_eq_true rfl, Nat.le_of_ble_eq_true rfl⟩) hD hS hA (fun r778 ws2 H locs hws2 hP hD hS => ?_)
  obtain ⟨Y, hr778⟩ := hws2
  have X := xd_move X (mdS_w Y) (xd_t0 X) (xd_t1 X)
  have Y := mdS_re Y
  refine lv_icmp_eq (tgt := 819) hx hb dL_law_781 (by decide) (fun c781 => ?_) (fun c781 => ?_)
  · exact kk _ _ ws2 H locs X Y hP hD hS
  · exact absurd (digits_u hr769 hr778) c781
set_option maxHeartbeats 4000000 in
set_option maxRecDepth 100000 in
theorem law_13 {p : Program} {l : Launch} {e : Env} {s : State} {m : MethodId} {below : List Frame} {meth : Method} {c : Code} {D : va_G} {b L : Nat} {xs : Nat → Int32} (hL : L ≤ 3584) (C0 : lw_At p s m meth c b L xs) {tys : xT} {ad adM : Nat → Nat} {cA cB : Nat → ClassId} {g : Nat → Option Nat} (hK : va_K D vwCl tys s) {i : Nat} {x3 : Int32} (hi7 : i + 7 ≤ L) (ex3 : x3 = nI i) {S : sS} {o : Int} {ws : va_W} {H : Heap} {locs : List Loc} {ls : Array Slot} (X : xd ws ws tys ad cA g S.1 S.2 o) (Y : mdS ws ws tys adM cB S) (hP : va_P D vwCl ws H) (hD : va_D (fun q : Nat => s.heap.size ≤ q) ws) (hS : va_S (fun q : Nat => s.heap.size ≤ q) s.heap H locs) (hl : lv_has ls 4 [(0, .ref b), (1, .ref (ad 0)), (2, .ref (adM 0)), (3, .int x3)])
    (kk : ∀ (S1 : sS) (o1 : Int) (ws1 : va_W) (H1 : Heap) (locs1 : List Loc), xd ws1 ws1 tys ad cA g S1.1 S1.2 o1 → mdS ws1 ws1 tys adM cB S1 → va_P D vwCl ws1 H1 → va_D (fun q : Nat => s.heap.size ≤ q) ws1 → va_S (fun q : Nat => s.heap.size ≤ q) s.heap H1 locs1 → W p l e room_1 s m #[Value.ref b] below meth c H1 locs1 18 531 (lw_Z below #[Value.ref b] s) (F0 m 819 ls [])) : W p l e room_1 s m #[Value.ref b] below meth c H locs 18 531 (lw_Z below #[Value.ref b] s) (F0 m 786 ls []) := by
  obtain ⟨hx, hb, hr, hml, hown, htsT, hX, hbl, hlocks, hgv⟩ := C0
  have hts : ∀ w ∈ wsL_law, w.before #[Value.ref b] s = true := fun w h => htsT w (wsL_law_in w h)
  have hA : ∀ q : Nat, s.heap.size ≤ q → (fun q : Nat => s.heap.size ≤ q) q := fun _ h => h
  have hbA : ¬ (fun q : Nat => s.heap.size ≤ q) b := Nat.not_le.mpr hbl
  refine lv_aload_n hx hb dL_law_786 rfl (lv_at hl 1 rfl) ?_
  refine lv_aload_n hx hb dL_law_787 rfl (lv_at hl 0 rfl) ?_
  refine lv_iload_n hx hb dL_law_788 rfl (lv_at hl 3 rfl) ?_
  refine lv_iconst (v := 1) hx hb dL_law_789 (by decide) ?_
  refine lv_iadd hx hb dL_law_790 ?_
  refine va_sld hx hb hX hbl hbA hS (lin (k := 1) ex3 hi7 (by decide) hL) dL_law_791 ?_
  refine lv_aload_n hx hb dL_law_792 rfl (lv_at hl 0 rfl) ?_
  refine lv_iload_n hx hb dL_law_793 rfl (lv_at hl 3 rfl) ?_
  refine lv_iconst (v := 2) hx hb dL_law_794 (by decide) ?_
  refine lv_iadd hx hb dL_law_795 ?_
  refine va_sld hx hb hX hbl hbA hS (lin (k := 2) ex3 hi7 (by decide) hL) dL_law_796 ?_
  refine xb_ri (va_runV (As := [.int (xs (x3 + 1).toNatClampNeg), .int (xs (x3 + 2).toNatClampNeg)]) (rest := []) ⟨hx, hb, hml, hown, hts⟩ (cE_digit l D X (xs (x3 + 1).toNatClampNeg) (xs (x3 + 2).toNatClampNeg)) (cwV 2 hts gL_law_X1_digit rfl rfl rfl (by decide +kernel) ⟨Nat.le_of_ble_eq_true rfl, Nat.le_of_ble_eq_true rfl⟩) (xb_pv hP hK hD rfl rfl (xd_a0 X)) rfl rfl hl.1 rfl (lv_room (Nat.le_of_ble_eq_true rfl)) dL_law_797 ⟨Nat.le_of_ble_eq_true rfl, Nat.le_of_ble_eq_true rfl⟩) hD hS hA (fun r797 ws1 H locs hws1 hP hD hS => ?_)
  obtain ⟨⟨o1, X⟩, hr797⟩ := hws1
  have Y := mdS_move Y (xd_rest X)
  obtain ⟨tf, bf, fa, fb, fc, fr, ng, M, T⟩ := Y
  refine lv_aload_n hx hb dL_law_800 rfl (lv_at hl 2 rfl) ?_
  refine lv_aload_n hx hb dL_law_801 rfl (lv_at hl 0 rfl) ?_
  refine lv_iload_n hx hb dL_law_802 rfl (lv_at hl 3 rfl) ?_
  refine lv_iconst (v := 1) hx hb dL_law_803 (by decide) ?_
  refine lv_iadd hx hb dL_law_804 ?_
  refine va_sld hx hb hX hbl hbA hS (lin (k := 1) ex3 hi7 (by decide) hL) dL_law_805 ?_
  refine lv_aload_n hx hb dL_law_806 rfl (lv_at hl 0 rfl) ?_
  refine lv_iload_n hx hb dL_law_807 rfl (lv_at hl 3 rfl) ?_
  refine lv_iconst (v := 2) hx hb dL_law_808 (by decide) ?_
  refine lv_iadd hx hb dL_law_809 ?_
  refine va_sld hx hb hX hbl hbA hS (lin (k := 2) ex3 hi7 (by decide) hL) dL_law_810 ?_
  refine xb_ri (va_runV (As := [.int (xs (x3 + 1).toNatClampNeg), .int (xs (x3 + 2).toNatClampNeg)]) (rest := [.int r797]) ⟨hx, hb, hml, hown, htsT⟩ (cM_digit l D M T (xs (x3 + 1).toNatClampNeg) (xs (x3 + 2).toNatClampNeg)) (cwV 2 htsT (gL_M (idx := 79) (y := yX2_digit) (cy := .code yX2_digit cX2_digit 3 (some .int)) (by decide +kernel) mw_80) rfl rfl rfl (by decide +kernel) ⟨Nat.le_of_ble_eq_true rfl, Nat.le_of_ble_eq_true rfl⟩) (xb_pv hP hK hD rfl rfl (md_a0 M)) rfl rfl hl.1 rfl (lv_room (Nat.le_of_ble_eq_true rfl)) dL_law_811 ⟨Nat.le_of_ble_eq_true rfl, Nat.le_of_ble_eq_true rfl⟩) hD hS hA (fun r811 ws2 H locs hws2 hP hD hS => ?_)
  obtain ⟨Y, hr811⟩ := hws2
  have X := xd_move X (mdS_w Y) (xd_t0 X) (xd_t1 X)
  have Y := mdS_re Y
  refine lv_icmp_eq (tgt := 819) hx hb dL_law_814 (by decide) (fun c814 => ?_) (fun c814 => ?_)
  · exact kk _ _ ws2 H locs X Y hP hD hS
  · exact absurd (hr797.trans hr811.symm) c814
