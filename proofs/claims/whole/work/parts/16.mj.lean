-- the reference: divide, join (laid by wip/whole/gen_mj.py)
/-- a number by its sign and its size -/
def sv (n : Int32) (z : Nat) : Int := if n = 1 then -(z : Int) else (z : Int)
theorem sv_same {lw ng : Int32} {x y : Nat} (h : lw = ng) : sv ng (x + y) = sv ng x + sv lw y := by
  subst h; unfold sv; split <;> omega
theorem sv_sub {lw ng : Int32} {x y : Nat} (hl : lw = 0 ∨ lw = 1) (hn : ng = 0 ∨ ng = 1) (h : ¬ lw = ng) (hxy : y ≤ x) : sv ng (x - y) = sv ng x + sv lw y := by
  have a : ¬ (0 : Int32) = 1 := by decide
  rcases hl with rfl | rfl <;> rcases hn with rfl | rfl <;> first | exact absurd rfl h | (simp only [sv, if_neg a, if_pos]; omega)
theorem sv_bus {lw ng : Int32} {x y : Nat} (hl : lw = 0 ∨ lw = 1) (hn : ng = 0 ∨ ng = 1) (h : ¬ lw = ng) (hxy : x ≤ y) : sv lw (y - x) = sv ng x + sv lw y := by
  have a : ¬ (0 : Int32) = 1 := by decide
  rcases hl with rfl | rfl <;> rcases hn with rfl | rfl <;> first | exact absurd rfl h | (simp only [sv, if_neg a, if_pos]; omega)
set_option maxHeartbeats 4000000 in
set_option maxRecDepth 100000 in
theorem cM_div (l : Launch) (D : va_G) {tys : xT} {ws : va_W} {sz : Nat} {w0 : va_W} {ad : Nat → Nat} {cB : Nat → ClassId} {rf : Nat → Int64} {tf bf fa fb fc fr : Nat → Int32} {ng : Int32} (M : md w0 ws tys ad cB rf tf bf fa fb fc fr ng) {x y : Nat} (hda : dg fa x) (hdb : dg fb y) (hy0 : 0 < y) (hxl : x < 10 ^ 80) (hyl : y < 10 ^ 79) : xM l yX2_divide (.code yX2_divide cX2_divide 4 none :: mdT) ({ frames := 1, cells := 0, slots := 0, locals := 24 }) D tys ws sz [.ref (ad 0)] (xQv D tys (fun w => ∃ f1 f2, md w0 w tys ad cB rf tf bf f1 fb fc f2 ng ∧ dg f1 (x / y) ∧ dg f2 (x % y))) 0 0 := by
  refine xb_m (cc := cX2_divide) (maxL := 4) (ret := none) (by decide) rfl (Nat.le_of_ble_eq_true rfl) ?_
  intro p e s m below meth c A ls hx hb hr hml hown hts hlocks hnm hA hP hK hD hS hl
  have hl : lv_has ls 4 [(0, .ref (ad 0))] := hl
  have hown : s.vm.findClass RX2 = some m.cls := hown
  have outer : ∀ (t : Nat) (x1 : Int32) (f1 f2 : Nat → Int32) (ws1 : va_W) (H : Heap) (locs : List Loc) (ls : Array Slot), t ≤ 80 → x1 = nI t + (-1) → md w0 ws1 tys ad cB rf tf bf f1 fb fc f2 ng → dg f1 (qV x y t) → dg f2 (x / 10 ^ t % y) → va_P D vwCl ws1 H → va_D A ws1 → va_S A s.heap H locs → lv_has ls 4 [(0, .ref (ad 0)), (1, .int x1)] → W p l e ({ frames := 1, cells := 0, slots := 0, locals := 24 }) s m [.ref (ad 0)].toArray below meth c H locs 0 0 (MQ below (xQv D tys (fun w => ∃ f1 f2, md w0 w tys ad cB rf tf bf f1 fb fc f2 ng ∧ dg f1 (x / y) ∧ dg f2 (x % y)) A) [.ref (ad 0)].toArray s 0 0 A) (F0 m 10 ls []) := by
    intro t
    induction t with
    | zero =>
      intro x1 f1 f2 ws1 H locs ls h1 ex1 M hd1 hd2 hP hD hS hl
      refine lv_iload_n hx hb dX2_divide_10 rfl (lv_at hl 1 rfl) ?_
      refine lv_if_lt (tgt := 110) hx hb dX2_divide_11 (by decide) (fun c11 => ?_) (fun c11 => ?_)
      · exact xb_vr hx hb hr hlocks hP hK hD hS dX2_divide_110 (⟨f1, f2, M, by rw [qV_0] at hd1; exact hd1, by rw [Nat.pow_zero, Nat.div_one] at hd2; exact hd2⟩)
      · exact absurd (by rw [ex1]; decide) c11
    | succ u ih =>
      intro x1 f1 f2 ws1 H locs ls h1 ex1 M hd1 hd2 hP hD hS hl
      rw [pk_m1] at ex1
      have hu : u < 80 := by omega
      have eu : f1 u = nI (x / 10 ^ u % 10) := by rw [hd1 u hu, qV_up, d3_at (d9 x u) (Nat.mod_lt x (p10 u))]
      have hR : x / 10 ^ (u + 1) % y < y := Nat.mod_lt _ hy0
      have he := d9 x u
      have h10 : 10 * 10 ^ 79 = 10 ^ 80 := by decide
      have K97 : ∀ (tm : Nat) (x2 : Int32) (gr : Nat → Int32) (ws1 : va_W) (H : Heap) (locs : List Loc) (ls : Array Slot), x2 = nI tm → md w0 ws1 tys ad cB rf tf bf f1 fb fc gr ng → dg gr ((x / 10 ^ (u + 1) % y * 10 + x / 10 ^ u % 10) - tm * y) → tm * y ≤ (x / 10 ^ (u + 1) % y * 10 + x / 10 ^ u % 10) → (x / 10 ^ (u + 1) % y * 10 + x / 10 ^ u % 10) - tm * y < y → va_P D vwCl ws1 H → va_D A ws1 → va_S A s.heap H locs → lv_has ls 4 [(0, .ref (ad 0)), (1, .int x1), (2, .int x2)] → W p l e ({ frames := 1, cells := 0, slots := 0, locals := 24 }) s m [.ref (ad 0)].toArray below meth c H locs 0 0 (MQ below (xQv D tys (fun w => ∃ f1 f2, md w0 w tys ad cB rf tf bf f1 fb fc f2 ng ∧ dg f1 (x / y) ∧ dg f2 (x % y)) A) [.ref (ad 0)].toArray s 0 0 A) (F0 m 97 ls []) := by
        intro tm x2 gr ws1 H locs ls ex2 M hdr t1 t2 hP hD hS hl
        have etm : tm = (x / 10 ^ (u + 1) % y * 10 + x / 10 ^ u % 10) / y := by
          symm
          exact Nat.div_eq_of_lt_le (by omega) (by rw [Nat.succ_mul]; omega)
        have erm : (x / 10 ^ (u + 1) % y * 10 + x / 10 ^ u % 10) - tm * y = (x / 10 ^ (u + 1) % y * 10 + x / 10 ^ u % 10) % y := by
          have q := Nat.div_add_mod (x / 10 ^ (u + 1) % y * 10 + x / 10 ^ u % 10) y
          rw [← etm, Nat.mul_comm] at q
          omega
        refine lv_aload_n hx hb dX2_divide_97 rfl (lv_at hl 0 rfl) ?_
        refine va_get (D := D) (ci := ciM) (v := .ref (ad 4)) (C := RX2) (T := TX2) (N := 8) hx hb hts inM hown hK hP 10 (md_a0 M) rfl 3 (by decide) (hts _ (inT mw_7)) (fun _ h9 => h9) rfl dX2_divide_98 ?_
        refine lv_iload_n hx hb dX2_divide_101 rfl (lv_at hl 1 rfl) ?_
        refine lv_iload_n hx hb dX2_divide_102 rfl (lv_at hl 2 rfl) ?_
        refine ia_st (x := x2) hx hb hK hP hD hS (md_a4 M) (md_t3 M) ex1 hu (by decide) dX2_divide_103 (fun ws2 H locs hws2 hP hD hS => ?_)
        have M := md_sfa M hws2
        refine lv_iinc (v := x1 + (-1)) (lv' := [(1, .int (x1 + (-1))), (0, .ref (ad 0)), (2, .int x2)]) hx hb dX2_divide_104 hl (k := 1) rfl (by rfl) (by decide) rfl (fun ls hl => ?_)
        refine lv_goto (tgt := 10) hx hb dX2_divide_107 (by decide) ?_
        have hq := dg_qV hy0 hd1
        rw [← etm, ← ex2] at hq
        exact ih (x1 + (-1)) _ gr ws2 H locs ls (by omega) (by rw [ex1]) M hq (by rw [(q_step hy0).2, ← erm]; exact hdr) hP hD hS (lv_sub hl [1, 0] rfl)
      have turn : ∀ (n tm : Nat) (x2 x3 : Int32) (gr : Nat → Int32) (ws1 : va_W) (H : Heap) (locs : List Loc) (ls : Array Slot), tm ≤ 9 → 9 < tm + n → x2 = nI tm → x3 = nI tm → md w0 ws1 tys ad cB rf tf bf f1 fb fc gr ng → dg gr ((x / 10 ^ (u + 1) % y * 10 + x / 10 ^ u % 10) - tm * y) → tm * y ≤ (x / 10 ^ (u + 1) % y * 10 + x / 10 ^ u % 10) → va_P D vwCl ws1 H → va_D A ws1 → va_S A s.heap H locs → lv_has ls 4 [(0, .ref (ad 0)), (1, .int x1), (2, .int x2), (3, .int x3)] → W p l e ({ frames := 1, cells := 0, slots := 0, locals := 24 }) s m [.ref (ad 0)].toArray below meth c H locs 0 0 (MQ below (xQv D tys (fun w => ∃ f1 f2, md w0 w tys ad cB rf tf bf f1 fb fc f2 ng ∧ dg f1 (x / y) ∧ dg f2 (x % y)) A) [.ref (ad 0)].toArray s 0 0 A) (F0 m 57 ls []) := by
        intro n
        induction n with
        | zero =>
          intro tm x2 x3 gr ws1 H locs ls h1 h2
          omega
        | succ n ihn =>
          intro tm x2 x3 gr ws1 H locs ls h1 h2 ex2 ex3 M hdr t1 hP hD hS hl
          refine lv_iload_n hx hb dX2_divide_57 rfl (lv_at hl 3 rfl) ?_
          refine lv_bipush (v := 9) hx hb dX2_divide_58 (by decide) ?_
          refine lv_icmp_ge (tgt := 97) hx hb dX2_divide_60 (by decide) (fun c60 => ?_) (fun c60 => ?_)
          · have q9 := nge (M := 9) rfl ex3 (by decide) c60 (by omega)
            have e9 : tm = 9 := by omega
            exact K97 tm x2 gr ws1 H locs ls ex2 M hdr t1 (by subst e9; omega) hP hD hS (lv_sub hl [0, 1, 2] rfl)
          · have q9 := nlt (M := 9) rfl ex3 (by decide) c60 (by omega)
            refine lv_aload_n hx hb dX2_divide_63 rfl (lv_at hl 0 rfl) ?_
            refine va_get (D := D) (ci := ciM) (v := .ref (ad 7)) (C := RX2) (T := TX2) (N := 8) hx hb hts inM hown hK hP 10 (md_a0 M) rfl 6 (by decide) (hts _ (inT mw_25)) (fun _ h9 => h9) rfl dX2_divide_64 ?_
            refine lv_aload_n hx hb dX2_divide_67 rfl (lv_at hl 0 rfl) ?_
            refine va_get (D := D) (ci := ciM) (v := .ref (ad 5)) (C := RX2) (T := TX2) (N := 8) hx hb hts inM hown hK hP 10 (md_a0 M) rfl 4 (by decide) (hts _ (inT mw_29)) (fun _ h9 => h9) rfl dX2_divide_68 ?_
            refine xb_ri (va_runS (As := [.ref (ad 7), .ref (ad 5)]) (rest := []) ⟨hx, hb, hml, hown, hts⟩ (cM_cmps l D (md_a7 M) (md_t6 M) (md_a5 M) (md_t4 M) hdr hdb (by omega) (by omega)) (va_cwS 2 hts (gM_S 47 yX2_compareSizes (.code yX2_compareSizes cX2_compareSizes 4 (some .int)) (by decide +kernel) mw_59) rfl rfl rfl (by decide +kernel) ⟨Nat.le_of_ble_eq_true rfl, Nat.le_of_ble_eq_true rfl⟩) (xb_ps rfl hP hK hD) rfl rfl hl.1 rfl (lv_room (Nat.le_of_ble_eq_true rfl)) dX2_divide_71 ⟨Nat.le_of_ble_eq_true rfl, Nat.le_of_ble_eq_true rfl⟩) hD hS hA (fun r71 ws2 H locs hws2 hP hD hS => ?_)
            obtain ⟨hr71, rfl⟩ := hws2
            refine lv_if_lt (tgt := 97) hx hb dX2_divide_74 (by decide) (fun c74 => ?_) (fun c74 => ?_)
            · rw [hr71, ord_lt] at c74
              exact K97 tm x2 gr ws1 H locs ls ex2 M hdr t1 (by omega) hP hD hS (lv_sub hl [0, 1, 2] rfl)
            · rw [hr71, ord_lt] at c74
              refine lv_aload_n hx hb dX2_divide_77 rfl (lv_at hl 0 rfl) ?_
              refine va_get (D := D) (ci := ciM) (v := .ref (ad 7)) (C := RX2) (T := TX2) (N := 8) hx hb hts inM hown hK hP 10 (md_a0 M) rfl 6 (by decide) (hts _ (inT mw_25)) (fun _ h9 => h9) rfl dX2_divide_78 ?_
              refine lv_aload_n hx hb dX2_divide_81 rfl (lv_at hl 0 rfl) ?_
              refine va_get (D := D) (ci := ciM) (v := .ref (ad 5)) (C := RX2) (T := TX2) (N := 8) hx hb hts inM hown hK hP 10 (md_a0 M) rfl 4 (by decide) (hts _ (inT mw_29)) (fun _ h9 => h9) rfl dX2_divide_82 ?_
              refine xb_rv (va_runS (As := [.ref (ad 7), .ref (ad 5)]) (rest := []) ⟨hx, hb, hml, hown, hts⟩ (cM_minus l D (md_a7 M) (md_t6 M) (md_a5 M) (md_t4 M) hdr hdb (by omega) (by decide)) (va_cwS 2 hts (gM_S 51 yX2_minus (.code yX2_minus cX2_minus 5 none) (by decide +kernel) mw_60) rfl rfl rfl (by decide +kernel) ⟨Nat.le_of_ble_eq_true rfl, Nat.le_of_ble_eq_true rfl⟩) (xb_ps rfl hP hK hD) rfl rfl hl.1 rfl (lv_room (Nat.le_of_ble_eq_true rfl)) dX2_divide_85 ⟨Nat.le_of_ble_eq_true rfl, Nat.le_of_ble_eq_true rfl⟩) hD hS hA (fun ws3 H locs hws3 hP hD hS => ?_)
              obtain ⟨fr_85, hws3, hdfr_85⟩ := hws3
              have M := md_sfr M hws3
              have hdfr_85 : dg fr_85 (((x / 10 ^ (u + 1) % y * 10 + x / 10 ^ u % 10) - tm * y) - y) := hdfr_85
              refine lv_iinc (v := x2 + 1) (lv' := [(2, .int (x2 + 1)), (0, .ref (ad 0)), (1, .int x1), (3, .int x3)]) hx hb dX2_divide_88 hl (k := 2) rfl (by rfl) (by decide) rfl (fun ls hl => ?_)
              refine lv_iinc (v := x3 + 1) (lv' := [(3, .int (x3 + 1)), (2, .int (x2 + 1)), (0, .ref (ad 0)), (1, .int x1)]) hx hb dX2_divide_91 hl (k := 3) rfl (by rfl) (by decide) rfl (fun ls hl => ?_)
              refine lv_goto (tgt := 57) hx hb dX2_divide_94 (by decide) ?_
              exact ihn (tm + 1) (x2 + 1) (x3 + 1) _ ws3 H locs ls (by omega) (by omega) (by rw [ex2]; exact nI_1 tm) (by rw [ex3]; exact nI_1 tm) M (by rw [Nat.succ_mul, Nat.sub_add_eq]; exact hdfr_85) (by rw [Nat.succ_mul]; omega) hP hD hS (lv_sub hl [2, 3, 1, 0] rfl)
      have K41 : ∀ (fs : Nat → Int32) (ws1 : va_W) (H : Heap) (locs : List Loc) (ls : Array Slot), md w0 ws1 tys ad cB rf tf bf f1 fb fc fs ng → (∀ j, 1 ≤ j → j < 80 → fs j = f2 (j - 1)) → va_P D vwCl ws1 H → va_D A ws1 → va_S A s.heap H locs → lv_has ls 4 [(0, .ref (ad 0)), (1, .int x1)] → W p l e ({ frames := 1, cells := 0, slots := 0, locals := 24 }) s m [.ref (ad 0)].toArray below meth c H locs 0 0 (MQ below (xQv D tys (fun w => ∃ f1 f2, md w0 w tys ad cB rf tf bf f1 fb fc f2 ng ∧ dg f1 (x / y) ∧ dg f2 (x % y)) A) [.ref (ad 0)].toArray s 0 0 A) (F0 m 41 ls []) := by
        intro fs ws1 H locs ls M hsh hP hD hS hl
        refine lv_aload_n hx hb dX2_divide_41 rfl (lv_at hl 0 rfl) ?_
        refine va_get (D := D) (ci := ciM) (v := .ref (ad 7)) (C := RX2) (T := TX2) (N := 8) hx hb hts inM hown hK hP 10 (md_a0 M) rfl 6 (by decide) (hts _ (inT mw_25)) (fun _ h9 => h9) rfl dX2_divide_42 ?_
        refine lv_iconst (v := 0) hx hb dX2_divide_45 (by decide) ?_
        refine lv_aload_n hx hb dX2_divide_46 rfl (lv_at hl 0 rfl) ?_
        refine va_get (D := D) (ci := ciM) (v := .ref (ad 4)) (C := RX2) (T := TX2) (N := 8) hx hb hts inM hown hK hP 10 (md_a0 M) rfl 3 (by decide) (hts _ (inT mw_7)) (fun _ h9 => h9) rfl dX2_divide_47 ?_
        refine lv_iload_n hx hb dX2_divide_50 rfl (lv_at hl 1 rfl) ?_
        refine ia_ld hx hb hK hP (md_a4 M) (md_t3 M) ex1 hu (by decide) dX2_divide_51 ?_
        refine ia_st (x := f1 u) hx hb hK hP hD hS (md_a7 M) (md_t6 M) nI_0.symm (by decide) (by decide) dX2_divide_52 (fun ws2 H locs hws2 hP hD hS => ?_)
        have M := md_sfr M hws2
        refine lv_iconst (v := 0) hx hb dX2_divide_53 (by decide) ?_
        refine lv_istore_n (lv' := [(2, .int 0), (0, .ref (ad 0)), (1, .int x1)]) hx hb dX2_divide_54 rfl hl (by decide) rfl (fun ls hl => ?_)
        refine lv_iconst (v := 0) hx hb dX2_divide_55 (by decide) ?_
        refine lv_istore_n (lv' := [(3, .int 0), (2, .int 0), (0, .ref (ad 0)), (1, .int x1)]) hx hb dX2_divide_56 rfl hl (by decide) rfl (fun ls hl => ?_)
        exact turn 10 0 0 0 _ ws2 H locs ls (by omega) (by omega) nI_0.symm nI_0.symm M (by rw [Nat.zero_mul, Nat.sub_zero]; exact dg_sh hd2 he (by rw [up_s]; exact eu) (fun j j1 j2 => by rw [up_n (by omega)]; exact hsh j j1 j2)) (by omega) hP hD hS (lv_sub hl [2, 3, 1, 0] rfl)
      have shift : ∀ (sx : Nat) (x2 : Int32) (fs : Nat → Int32) (ws1 : va_W) (H : Heap) (locs : List Loc) (ls : Array Slot), sx < 80 → x2 = nI sx → md w0 ws1 tys ad cB rf tf bf f1 fb fc fs ng → (∀ j, sx < j → j < 80 → fs j = f2 (j - 1)) → (∀ j, j ≤ sx → fs j = f2 j) → va_P D vwCl ws1 H → va_D A ws1 → va_S A s.heap H locs → lv_has ls 4 [(0, .ref (ad 0)), (1, .int x1), (2, .int x2)] → W p l e ({ frames := 1, cells := 0, slots := 0, locals := 24 }) s m [.ref (ad 0)].toArray below meth c H locs 0 0 (MQ below (xQv D tys (fun w => ∃ f1 f2, md w0 w tys ad cB rf tf bf f1 fb fc f2 ng ∧ dg f1 (x / y) ∧ dg f2 (x % y)) A) [.ref (ad 0)].toArray s 0 0 A) (F0 m 17 ls []) := by
        intro sx
        induction sx with
        | zero =>
          intro x2 fs ws1 H locs ls s1 ex2 M hs1 hs2 hP hD hS hl
          refine lv_iload_n hx hb dX2_divide_17 rfl (lv_at hl 2 rfl) ?_
          refine lv_if_le (tgt := 41) hx hb dX2_divide_18 (by decide) (fun c18 => ?_) (fun c18 => ?_)
          · exact K41 fs ws1 H locs ls M (fun j j1 j2 => hs1 j (by omega) j2) hP hD hS (lv_sub hl [0, 1] rfl)
          · exact absurd (by rw [ex2]; decide) c18
        | succ sx ihs =>
          intro x2 fs ws1 H locs ls s1 ex2 M hs1 hs2 hP hD hS hl
          refine lv_iload_n hx hb dX2_divide_17 rfl (lv_at hl 2 rfl) ?_
          refine lv_if_le (tgt := 41) hx hb dX2_divide_18 (by decide) (fun c18 => ?_) (fun c18 => ?_)
          · exact absurd c18 (by rw [ex2]; exact nI_nle (by omega) (by omega))
          · refine lv_aload_n hx hb dX2_divide_21 rfl (lv_at hl 0 rfl) ?_
            refine va_get (D := D) (ci := ciM) (v := .ref (ad 7)) (C := RX2) (T := TX2) (N := 8) hx hb hts inM hown hK hP 10 (md_a0 M) rfl 6 (by decide) (hts _ (inT mw_25)) (fun _ h9 => h9) rfl dX2_divide_22 ?_
            refine lv_iload_n hx hb dX2_divide_25 rfl (lv_at hl 2 rfl) ?_
            refine lv_aload_n hx hb dX2_divide_26 rfl (lv_at hl 0 rfl) ?_
            refine va_get (D := D) (ci := ciM) (v := .ref (ad 7)) (C := RX2) (T := TX2) (N := 8) hx hb hts inM hown hK hP 10 (md_a0 M) rfl 6 (by decide) (hts _ (inT mw_25)) (fun _ h9 => h9) rfl dX2_divide_27 ?_
            refine lv_iload_n hx hb dX2_divide_30 rfl (lv_at hl 2 rfl) ?_
            refine lv_iconst (v := 1) hx hb dX2_divide_31 (by decide) ?_
            refine lv_isub hx hb dX2_divide_32 ?_
            refine ia_ld hx hb hK hP (md_a7 M) (md_t6 M) (show x2 - 1 = nI sx by rw [ex2]; exact nI_pred sx) (show sx < 80 by omega) (by decide) dX2_divide_33 ?_
            refine ia_st (x := fs sx) hx hb hK hP hD hS (md_a7 M) (md_t6 M) ex2 s1 (by decide) dX2_divide_34 (fun ws2 H locs hws2 hP hD hS => ?_)
            have M := md_sfr M hws2
            refine lv_iinc (v := x2 + (-1)) (lv' := [(2, .int (x2 + (-1))), (0, .ref (ad 0)), (1, .int x1)]) hx hb dX2_divide_35 hl (k := 2) rfl (by rfl) (by decide) rfl (fun ls hl => ?_)
            refine lv_goto (tgt := 17) hx hb dX2_divide_38 (by decide) ?_
            exact ihs (x2 + (-1)) _ ws2 H locs ls (by omega) (by rw [ex2]; exact pk_m1 sx) M (fun j j1 j2 => by
              by_cases e : j = sx + 1
              · subst e; rw [up_s, Nat.add_sub_cancel]; exact hs2 sx (by omega)
              · rw [up_n e]; exact hs1 j (by omega) j2) (fun j j1 => by rw [up_n (by omega)]; exact hs2 j (by omega)) hP hD hS (lv_sub hl [1, 2, 0] rfl)
      refine lv_iload_n hx hb dX2_divide_10 rfl (lv_at hl 1 rfl) ?_
      refine lv_if_lt (tgt := 110) hx hb dX2_divide_11 (by decide) (fun c11 => ?_) (fun c11 => ?_)
      · exact absurd c11 (by rw [ex1]; exact nI_pos (by omega))
      · refine lv_bipush (v := 79) hx hb dX2_divide_14 (by decide) ?_
        refine lv_istore_n (lv' := [(2, .int 79), (0, .ref (ad 0)), (1, .int x1)]) hx hb dX2_divide_16 rfl hl (by decide) rfl (fun ls hl => ?_)
        exact shift 79 79 f2 ws1 H locs ls (by decide) rfl M (fun j j1 j2 => absurd j1 (by omega)) (fun j _ => rfl) hP hD hS (lv_sub hl [1, 2, 0] rfl)
  refine lv_aload_n hx hb dX2_divide_0 rfl (lv_at hl 0 rfl) ?_
  refine va_get (D := D) (ci := ciM) (v := .ref (ad 7)) (C := RX2) (T := TX2) (N := 8) hx hb hts inM hown hK hP 10 (md_a0 M) rfl 6 (by decide) (hts _ (inT mw_25)) (fun _ h9 => h9) rfl dX2_divide_1 ?_
  refine xb_rv (va_runS (As := [.ref (ad 7)]) (rest := []) ⟨hx, hb, hml, hown, hts⟩ (cM_nothing l D (md_a7 M) (md_t6 M)) (va_cwS 1 hts (gM_S 39 yX2_nothing (.code yX2_nothing cX2_nothing 2 none) (by decide +kernel) mw_66) rfl rfl rfl (by decide +kernel) ⟨Nat.le_of_ble_eq_true rfl, Nat.le_of_ble_eq_true rfl⟩) (xb_ps rfl hP hK hD) rfl rfl hl.1 rfl (lv_room (Nat.le_of_ble_eq_true rfl)) dX2_divide_4 ⟨Nat.le_of_ble_eq_true rfl, Nat.le_of_ble_eq_true rfl⟩) hD hS hA (fun ws1 H locs hws1 hP hD hS => ?_)
  obtain ⟨fr_4, hws1, hdfr_4⟩ := hws1
  have M := md_sfr M hws1
  have hdfr_4 : dg fr_4 0 := fun j hj => by rw [hdfr_4 j hj, Nat.zero_div]; rfl
  refine lv_bipush (v := 79) hx hb dX2_divide_7 (by decide) ?_
  refine lv_istore_n (lv' := [(1, .int 79), (0, .ref (ad 0))]) hx hb dX2_divide_9 rfl hl (by decide) rfl (fun ls hl => ?_)
  exact outer 80 79 fa fr_4 ws1 H locs ls (by omega) rfl M (by rw [qV_80 hxl]; exact hda) (by rw [Nat.div_eq_of_lt hxl, Nat.zero_mod]; exact hdfr_4) hP hD hS (lv_sub hl [1, 0] rfl)
set_option maxHeartbeats 4000000 in
set_option maxRecDepth 100000 in
theorem cM_join (l : Launch) (D : va_G) {tys : xT} {ws : va_W} {sz : Nat} {w0 : va_W} {ad : Nat → Nat} {cB : Nat → ClassId} {rf : Nat → Int64} {tf bf fa fb fc fr : Nat → Int32} {ng : Int32} (M : md w0 ws tys ad cB rf tf bf fa fb fc fr ng) {x y : Nat} (hda : dg fa x) (hdc : dg fc y) (hxy : x + y < 10 ^ 80) {lw : Int32} (hlw : lw = 0 ∨ lw = 1) (hng : ng = 0 ∨ ng = 1) : xM l yX2_join (.code yX2_join cX2_join 2 none :: mdT) ({ frames := 1, cells := 0, slots := 0, locals := 24 }) D tys ws sz [.ref (ad 0), .int lw] (xQv D tys (fun w => ∃ f1 f2 n1 z, md w0 w tys ad cB rf tf bf f1 fb fc f2 n1 ∧ (n1 = 0 ∨ n1 = 1) ∧ dg f1 z ∧ z ≤ x + y ∧ sv n1 z = sv ng x + sv lw y)) 0 0 := by
  refine xb_m (cc := cX2_join) (maxL := 2) (ret := none) (by decide) rfl (Nat.le_of_ble_eq_true rfl) ?_
  intro p e s m below meth c A ls hx hb hr hml hown hts hlocks hnm hA hP hK hD hS hl
  have hl : lv_has ls 2 [(0, .ref (ad 0)), (1, .int lw)] := hl
  have hown : s.vm.findClass RX2 = some m.cls := hown
  refine lv_iload_n hx hb dX2_join_0 rfl (lv_at hl 1 rfl) ?_
  refine lv_aload_n hx hb dX2_join_1 rfl (lv_at hl 0 rfl) ?_
  refine va_get (D := D) (ci := ciM) (v := .int ng) (C := RX2) (T := TX2) (N := 8) hx hb hts inM hown hK hP 10 (md_a0 M) rfl 7 (by decide) (hts _ (inT mw_10)) (fun _ h9 => h9) rfl dX2_join_2 ?_
  refine lv_icmp_ne (tgt := 22) hx hb dX2_join_5 (by decide) (fun c5 => ?_) (fun c5 => ?_)
  · refine lv_aload_n hx hb dX2_join_22 rfl (lv_at hl 0 rfl) ?_
    refine va_get (D := D) (ci := ciM) (v := .ref (ad 4)) (C := RX2) (T := TX2) (N := 8) hx hb hts inM hown hK hP 10 (md_a0 M) rfl 3 (by decide) (hts _ (inT mw_7)) (fun _ h9 => h9) rfl dX2_join_23 ?_
    refine lv_aload_n hx hb dX2_join_26 rfl (lv_at hl 0 rfl) ?_
    refine va_get (D := D) (ci := ciM) (v := .ref (ad 6)) (C := RX2) (T := TX2) (N := 8) hx hb hts inM hown hK hP 10 (md_a0 M) rfl 5 (by decide) (hts _ (inT mw_11)) (fun _ h9 => h9) rfl dX2_join_27 ?_
    refine xb_ri (va_runS (As := [.ref (ad 4), .ref (ad 6)]) (rest := []) ⟨hx, hb, hml, hown, hts⟩ (cM_cmps l D (md_a4 M) (md_t3 M) (md_a6 M) (md_t5 M) hda hdc (by omega) (by omega)) (va_cwS 2 hts (gM_S 47 yX2_compareSizes (.code yX2_compareSizes cX2_compareSizes 4 (some .int)) (by decide +kernel) mw_59) rfl rfl rfl (by decide +kernel) ⟨Nat.le_of_ble_eq_true rfl, Nat.le_of_ble_eq_true rfl⟩) (xb_ps rfl hP hK hD) rfl rfl hl.1 rfl (lv_room (Nat.le_of_ble_eq_true rfl)) dX2_join_30 ⟨Nat.le_of_ble_eq_true rfl, Nat.le_of_ble_eq_true rfl⟩) hD hS hA (fun r30 ws1 H locs hws1 hP hD hS => ?_)
    obtain ⟨hr30, rfl⟩ := hws1
    refine lv_if_lt (tgt := 50) hx hb dX2_join_33 (by decide) (fun c33 => ?_) (fun c33 => ?_)
    · refine lv_aload_n hx hb dX2_join_50 rfl (lv_at hl 0 rfl) ?_
      refine va_get (D := D) (ci := ciM) (v := .ref (ad 4)) (C := RX2) (T := TX2) (N := 8) hx hb hts inM hown hK hP 10 (md_a0 M) rfl 3 (by decide) (hts _ (inT mw_7)) (fun _ h9 => h9) rfl dX2_join_51 ?_
      refine lv_aload_n hx hb dX2_join_54 rfl (lv_at hl 0 rfl) ?_
      refine va_get (D := D) (ci := ciM) (v := .ref (ad 7)) (C := RX2) (T := TX2) (N := 8) hx hb hts inM hown hK hP 10 (md_a0 M) rfl 6 (by decide) (hts _ (inT mw_25)) (fun _ h9 => h9) rfl dX2_join_55 ?_
      refine xb_rv (va_runS (As := [.ref (ad 4), .ref (ad 7)]) (rest := []) ⟨hx, hb, hml, hown, hts⟩ (cM_copy l D (md_a7 M) (md_t6 M) (md_a4 M) (md_t3 M) (by decide)) (va_cwS 2 hts (gM_S 43 yX2_copy (.code yX2_copy cX2_copy 3 none) (by decide +kernel) mw_61) rfl rfl rfl (by decide +kernel) ⟨Nat.le_of_ble_eq_true rfl, Nat.le_of_ble_eq_true rfl⟩) (xb_ps rfl hP hK hD) rfl rfl hl.1 rfl (lv_room (Nat.le_of_ble_eq_true rfl)) dX2_join_58 ⟨Nat.le_of_ble_eq_true rfl, Nat.le_of_ble_eq_true rfl⟩) hD hS hA (fun ws2 H locs hws2 hP hD hS => ?_)
      obtain ⟨fr_58, hws2, hdfr_58⟩ := hws2
      have M := md_sfr M hws2
      have hdfr_58 : dg fr_58 x := fun j hj => (hdfr_58 j hj).trans (hda j hj)
      refine lv_aload_n hx hb dX2_join_61 rfl (lv_at hl 0 rfl) ?_
      refine va_get (D := D) (ci := ciM) (v := .ref (ad 6)) (C := RX2) (T := TX2) (N := 8) hx hb hts inM hown hK hP 10 (md_a0 M) rfl 5 (by decide) (hts _ (inT mw_11)) (fun _ h9 => h9) rfl dX2_join_62 ?_
      refine lv_aload_n hx hb dX2_join_65 rfl (lv_at hl 0 rfl) ?_
      refine va_get (D := D) (ci := ciM) (v := .ref (ad 4)) (C := RX2) (T := TX2) (N := 8) hx hb hts inM hown hK hP 10 (md_a0 M) rfl 3 (by decide) (hts _ (inT mw_7)) (fun _ h9 => h9) rfl dX2_join_66 ?_
      refine xb_rv (va_runS (As := [.ref (ad 6), .ref (ad 4)]) (rest := []) ⟨hx, hb, hml, hown, hts⟩ (cM_copy l D (md_a4 M) (md_t3 M) (md_a6 M) (md_t5 M) (by decide)) (va_cwS 2 hts (gM_S 43 yX2_copy (.code yX2_copy cX2_copy 3 none) (by decide +kernel) mw_61) rfl rfl rfl (by decide +kernel) ⟨Nat.le_of_ble_eq_true rfl, Nat.le_of_ble_eq_true rfl⟩) (xb_ps rfl hP hK hD) rfl rfl hl.1 rfl (lv_room (Nat.le_of_ble_eq_true rfl)) dX2_join_69 ⟨Nat.le_of_ble_eq_true rfl, Nat.le_of_ble_eq_true rfl⟩) hD hS hA (fun ws3 H locs hws3 hP hD hS => ?_)
      obtain ⟨fa_69, hws3, hdfa_69⟩ := hws3
      have M := md_sfa M hws3
      have hdfa_69 : dg fa_69 y := fun j hj => (hdfa_69 j hj).trans (hdc j hj)
      refine lv_aload_n hx hb dX2_join_72 rfl (lv_at hl 0 rfl) ?_
      refine va_get (D := D) (ci := ciM) (v := .ref (ad 4)) (C := RX2) (T := TX2) (N := 8) hx hb hts inM hown hK hP 10 (md_a0 M) rfl 3 (by decide) (hts _ (inT mw_7)) (fun _ h9 => h9) rfl dX2_join_73 ?_
      refine lv_aload_n hx hb dX2_join_76 rfl (lv_at hl 0 rfl) ?_
      refine va_get (D := D) (ci := ciM) (v := .ref (ad 7)) (C := RX2) (T := TX2) (N := 8) hx hb hts inM hown hK hP 10 (md_a0 M) rfl 6 (by decide) (hts _ (inT mw_25)) (fun _ h9 => h9) rfl dX2_join_77 ?_
      refine xb_rv (va_runS (As := [.ref (ad 4), .ref (ad 7)]) (rest := []) ⟨hx, hb, hml, hown, hts⟩ (cM_minus l D (md_a4 M) (md_t3 M) (md_a7 M) (md_t6 M) hdfa_69 hdfr_58 (by rw [hr30, ord_lt] at c33; omega) (by decide)) (va_cwS 2 hts (gM_S 51 yX2_minus (.code yX2_minus cX2_minus 5 none) (by decide +kernel) mw_60) rfl rfl rfl (by decide +kernel) ⟨Nat.le_of_ble_eq_true rfl, Nat.le_of_ble_eq_true rfl⟩) (xb_ps rfl hP hK hD) rfl rfl hl.1 rfl (lv_room (Nat.le_of_ble_eq_true rfl)) dX2_join_80 ⟨Nat.le_of_ble_eq_true rfl, Nat.le_of_ble_eq_true rfl⟩) hD hS hA (fun ws4 H locs hws4 hP hD hS => ?_)
      obtain ⟨fa_80, hws4, hdfa_80⟩ := hws4
      have M := md_sfa M hws4
      have hdfa_80 : dg fa_80 (y - x) := hdfa_80
      refine lv_aload_n hx hb dX2_join_83 rfl (lv_at hl 0 rfl) ?_
      refine lv_iload_n hx hb dX2_join_84 rfl (lv_at hl 1 rfl) ?_
      refine va_put (D := D) (ci := ciM) (v := .int lw) (ty := .boolean) (C := RX2) (T := TX2) (N := 8) hx hb hts inM tyX2 tyX2_ok nmX2 hown hK hP hD hS 10 (md_a0 M) rfl 7 (by decide) (hts _ (inT mw_10)) (fun _ h9 => h9) rfl (by decide +kernel) (by rcases hlw with rfl | rfl <;> rfl) (by rcases hlw with rfl | rfl <;> rfl) (Nat.le_of_ble_eq_true rfl) dX2_join_85 (fun H locs hP hD hS => ?_)
      obtain ⟨ws5, hws5⟩ : ∃ q_, q_ = ws4.set 10 (ad 0, .inr (ciM, [.ref (ad 1), .ref (ad 2), .ref (ad 3), .ref (ad 4), .ref (ad 5), .ref (ad 6), .ref (ad 7), .int lw])) := ⟨_, rfl⟩
      have hP : va_P D vwCl ws5 H := by rw [hws5]; exact hP
      have hD : va_D A ws5 := by rw [hws5]; exact hD
      have M := md_sng M hws5
      exact xb_vr hx hb hr hlocks hP hK hD hS dX2_join_88 (⟨_, _, lw, y - x, M, hlw, hdfa_80, by omega, sv_bus hlw hng c5 (by rw [hr30, ord_lt] at c33; omega)⟩)
    · refine lv_aload_n hx hb dX2_join_36 rfl (lv_at hl 0 rfl) ?_
      refine va_get (D := D) (ci := ciM) (v := .ref (ad 4)) (C := RX2) (T := TX2) (N := 8) hx hb hts inM hown hK hP 10 (md_a0 M) rfl 3 (by decide) (hts _ (inT mw_7)) (fun _ h9 => h9) rfl dX2_join_37 ?_
      refine lv_aload_n hx hb dX2_join_40 rfl (lv_at hl 0 rfl) ?_
      refine va_get (D := D) (ci := ciM) (v := .ref (ad 6)) (C := RX2) (T := TX2) (N := 8) hx hb hts inM hown hK hP 10 (md_a0 M) rfl 5 (by decide) (hts _ (inT mw_11)) (fun _ h9 => h9) rfl dX2_join_41 ?_
      refine xb_rv (va_runS (As := [.ref (ad 4), .ref (ad 6)]) (rest := []) ⟨hx, hb, hml, hown, hts⟩ (cM_minus l D (md_a4 M) (md_t3 M) (md_a6 M) (md_t5 M) hda hdc (by rw [hr30, ord_lt] at c33; omega) (by decide)) (va_cwS 2 hts (gM_S 51 yX2_minus (.code yX2_minus cX2_minus 5 none) (by decide +kernel) mw_60) rfl rfl rfl (by decide +kernel) ⟨Nat.le_of_ble_eq_true rfl, Nat.le_of_ble_eq_true rfl⟩) (xb_ps rfl hP hK hD) rfl rfl hl.1 rfl (lv_room (Nat.le_of_ble_eq_true rfl)) dX2_join_44 ⟨Nat.le_of_ble_eq_true rfl, Nat.le_of_ble_eq_true rfl⟩) hD hS hA (fun ws2 H locs hws2 hP hD hS => ?_)
      obtain ⟨fa_44, hws2, hdfa_44⟩ := hws2
      have M := md_sfa M hws2
      have hdfa_44 : dg fa_44 (x - y) := hdfa_44
      refine lv_goto (tgt := 88) hx hb dX2_join_47 (by decide) ?_
      exact xb_vr hx hb hr hlocks hP hK hD hS dX2_join_88 (⟨_, _, ng, x - y, M, hng, hdfa_44, by omega, sv_sub hlw hng c5 (by rw [hr30, ord_lt] at c33; omega)⟩)
  · refine lv_aload_n hx hb dX2_join_8 rfl (lv_at hl 0 rfl) ?_
    refine va_get (D := D) (ci := ciM) (v := .ref (ad 4)) (C := RX2) (T := TX2) (N := 8) hx hb hts inM hown hK hP 10 (md_a0 M) rfl 3 (by decide) (hts _ (inT mw_7)) (fun _ h9 => h9) rfl dX2_join_9 ?_
    refine lv_aload_n hx hb dX2_join_12 rfl (lv_at hl 0 rfl) ?_
    refine va_get (D := D) (ci := ciM) (v := .ref (ad 6)) (C := RX2) (T := TX2) (N := 8) hx hb hts inM hown hK hP 10 (md_a0 M) rfl 5 (by decide) (hts _ (inT mw_11)) (fun _ h9 => h9) rfl dX2_join_13 ?_
    refine xb_rv (va_runS (As := [.ref (ad 4), .ref (ad 6)]) (rest := []) ⟨hx, hb, hml, hown, hts⟩ (cM_plus l D (md_a4 M) (md_t3 M) (md_a6 M) (md_t5 M) hda hdc (by decide)) (va_cwS 2 hts (gM_S 58 yX2_plus (.code yX2_plus cX2_plus 5 none) (by decide +kernel) mw_58) rfl rfl rfl (by decide +kernel) ⟨Nat.le_of_ble_eq_true rfl, Nat.le_of_ble_eq_true rfl⟩) (xb_ps rfl hP hK hD) rfl rfl hl.1 rfl (lv_room (Nat.le_of_ble_eq_true rfl)) dX2_join_16 ⟨Nat.le_of_ble_eq_true rfl, Nat.le_of_ble_eq_true rfl⟩) hD hS hA (fun ws1 H locs hws1 hP hD hS => ?_)
    obtain ⟨fa_16, hws1, hdfa_16⟩ := hws1
    have M := md_sfa M hws1
    have hdfa_16 : dg fa_16 (x + y) := hdfa_16
    refine lv_goto (tgt := 88) hx hb dX2_join_19 (by decide) ?_
    exact xb_vr hx hb hr hlocks hP hK hD hS dX2_join_88 (⟨_, _, ng, x + y, M, hng, hdfa_16, by omega, sv_same c5⟩)
