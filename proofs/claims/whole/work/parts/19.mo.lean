/-! the reference's tallies -/
theorem kT_rf (rf : Nat → Int64) (tv : Nat → Int) (t : Int32) (v : Int) : (sp_kT (rf, tv) t v).2.1 = rf := by
  unfold sp_kT; split
  · rfl
  · split <;> rfl
theorem fin_kT {w0 w : va_W} {tys : xT} {ad : Nat → Nat} {cB : Nat → ClassId} {rf : Nat → Int64} {tv : Nat → Int} {fa fb fc fr : Nat → Int32} {ng t a : Int32} {V : Int} {SP : Int32 × sS} (hw : (∃ tf1 bf1, md w0 w tys ad cB rf tf1 bf1 fa fb fc fr ng ∧ mt tf1 bf1 (sp_kT (rf, tv) t V).2.2) ∧ a = (sp_kT (rf, tv) t V).1) (e : SP = sp_kT (rf, tv) t V) : mdS w0 w tys ad cB SP.2 ∧ a = SP.1 := by
  obtain ⟨⟨tf1, bf1, M, T⟩, h⟩ := hw
  rw [e]
  exact ⟨⟨tf1, bf1, fa, fb, fc, fr, ng, by rw [kT_rf]; exact M, T⟩, h⟩
theorem ix40 {t xi : Int32} {i : Nat} (h : ¬ t < 0 ∧ t < 4) (e : xi = nI i) : 40 * t + xi = nI (40 * t.toNatClampNeg + i) := by
  have et := ix_n h.1
  have q : nI 40 * nI t.toNatClampNeg + nI i = nI (40 * t.toNatClampNeg + i) := by rw [pk_mul, nI_add]
  rw [← et] at q
  rw [e]
  exact q
theorem lt160 {t : Int32} {i : Nat} (h : ¬ t < 0 ∧ t < 4) (hi : i < 40) : 40 * t.toNatClampNeg + i < 160 := by
  have := j4 h
  omega
section MT
variable {tf bf : Nat → Int32} {tv : Nat → Int}
theorem mt_d (T : mt tf bf tv) {t : Int32} (h : ¬ t < 0 ∧ t < 4) {k : Nat} (hk : k < 36) : tf (40 * t.toNatClampNeg + k) = nI ((tv t.toNatClampNeg).natAbs / 10 ^ k % 10) := (T _ (j4 h)).1 k hk
theorem mt_b (T : mt tf bf tv) {t : Int32} (h : ¬ t < 0 ∧ t < 4) : bf t.toNatClampNeg = (if tv t.toNatClampNeg < 0 then 1 else 0) := (T _ (j4 h)).2.1
theorem mt_l (T : mt tf bf tv) {t : Int32} (h : ¬ t < 0 ∧ t < 4) : (tv t.toNatClampNeg).natAbs < 10 ^ 36 := (T _ (j4 h)).2.2
theorem mt_01 (T : mt tf bf tv) {t : Int32} (h : ¬ t < 0 ∧ t < 4) : bf t.toNatClampNeg = 0 ∨ bf t.toNatClampNeg = 1 := by
  rw [mt_b T h]; split
  · exact Or.inr rfl
  · exact Or.inl rfl
theorem mt_s (T : mt tf bf tv) {t : Int32} (h : ¬ t < 0 ∧ t < 4) : sv (bf t.toNatClampNeg) (tv t.toNatClampNeg).natAbs = tv t.toNatClampNeg := by
  have b := mt_b T h
  by_cases q : tv t.toNatClampNeg < 0
  · rw [if_pos q] at b; rw [sv_1 b]; omega
  · rw [if_neg q] at b; rw [sv_0 b]; omega
theorem mt_up (T : mt tf bf tv) {t n : Int32} (h : ¬ t < 0 ∧ t < 4) {x : Nat} (hx : x < 10 ^ 36) {tf1 : Nat → Int32} (h1 : ∀ k, k < 36 → tf1 (40 * t.toNatClampNeg + k) = nI (x / 10 ^ k % 10)) (h2 : ∀ q, (q < 40 * t.toNatClampNeg ∨ 40 * t.toNatClampNeg + 36 ≤ q) → tf1 q = tf q) {b : Int32} (hb : b = (if sv n x < 0 then 1 else 0)) : mt tf1 (upd bf t.toNatClampNeg b) (va_up tv t.toNatClampNeg (sv n x)) := by
  intro u hu
  have ab : (sv n x).natAbs = x := by unfold sv; split <;> omega
  by_cases e : u = t.toNatClampNeg
  · subst e
    rw [show va_up tv t.toNatClampNeg (sv n x) t.toNatClampNeg = sv n x from if_pos rfl, up_s, ab]
    exact ⟨h1, hb, hx⟩
  · rw [show va_up tv t.toNatClampNeg (sv n x) u = tv u from if_neg e, up_n e]
    refine ⟨fun k hk => ?_, (T u hu).2⟩
    rw [h2 _ (by omega)]
    exact (T u hu).1 k hk
end MT
theorem z36 {V i : Nat} (hV : V < 10 ^ 36) (hi : 36 ≤ i) : V / 10 ^ i % 10 = 0 := by
  have : 10 ^ 36 ≤ 10 ^ i := Nat.pow_le_pow_right (by decide) hi
  rw [Nat.div_eq_of_lt (by omega)]
theorem p36 : (10 : Nat) ^ 36 = 1000000000000000000000000000000000000 := by decide
theorem b80 {x : Nat} (h : x < 10 ^ 36) : x < 10 ^ 80 := Nat.lt_trans h (by decide)
theorem b40 {x : Nat} (h : x < 10 ^ 36) : x < 10 ^ 40 := Nat.lt_trans h (by decide)
/-- the flag 'wide' of keep, one place on -/
theorem wd_1 {x i : Nat} (hi : 36 ≤ i) (h : 10 ^ 36 ≤ x % 10 ^ i) : 10 ^ 36 ≤ x % 10 ^ (i + 1) := by
  rw [pd_mod]; omega
theorem wd_2 {x i : Nat} (hi : 36 ≤ i) (h : ¬ x / 10 ^ i % 10 = 0) : 10 ^ 36 ≤ x % 10 ^ (i + 1) := by
  have a : 10 ^ 36 ≤ 10 ^ i := Nat.pow_le_pow_right (by decide) hi
  have b : 10 ^ i * 1 ≤ 10 ^ i * (x / 10 ^ i % 10) := Nat.mul_le_mul_left _ (by omega)
  rw [pd_mod]; omega
theorem wd_3 {x i : Nat} (h : ¬ 10 ^ 36 ≤ x % 10 ^ i) (h2 : x / 10 ^ i % 10 = 0) : ¬ 10 ^ 36 ≤ x % 10 ^ (i + 1) := by
  rw [pd_mod, h2]; omega
theorem nI_le0 {a : Nat} (h : a < 10) : (nI a ≤ 0) ↔ a = 0 := by
  constructor
  · intro q
    have := (nI_leI (b := 0) (by omega) (by decide)).mp q
    omega
  · intro q; subst q; decide
theorem tJ1 {tf : Nat → Int32} {B x i : Nat} {v : Int32} (h : ∀ k, k < i → tf (B + k) = nI (x / 10 ^ k % 10)) (hv : v = nI (x / 10 ^ i % 10)) : ∀ k, k < i + 1 → upd tf (B + i) v (B + k) = nI (x / 10 ^ k % 10) := fun k hk => by
  by_cases e : k = i
  · subst e; rw [up_s]; exact hv
  · rw [up_n (by omega)]; exact h k (by omega)
theorem tJ2 {tf tg : Nat → Int32} {B i : Nat} {v : Int32} (h : ∀ q, (q < B ∨ B + i ≤ q) → tf q = tg q) : ∀ q, (q < B ∨ B + (i + 1) ≤ q) → upd tf (B + i) v q = tg q := fun q hq => by
  rw [up_n (by omega)]; exact h q (by omega)
theorem enter_eq {rf : Nat → Int64} {tv : Nat → Int} {t r : Int32} {v : Int64} {V : Int} (h : okT t ∧ okR r) (e : V = tv t.toNatClampNeg + (rf r.toNatClampNeg).toInt * v.toInt) : sp_enter (rf, tv) t r v = sp_kT (rf, tv) t V := by
  rw [e, Int.add_comm]; exact if_pos h
theorem merge_eq {rf : Nat → Int64} {tv : Nat → Int} {t u : Int32} {V : Int} (h : okT t ∧ okT u) (e : V = tv t.toNatClampNeg + tv u.toNatClampNeg) : sp_merge (rf, tv) t u = sp_kT (rf, tv) t V := by
  rw [e]; exact if_pos h
theorem take_eq {rf : Nat → Int64} {tv : Nat → Int} {t r : Int32} {V : Int} (h : okT t ∧ okR r) (e : V = tv t.toNatClampNeg) : sp_take (rf, tv) t r = sp_kR (rf, tv) r V := by
  rw [e]; exact if_pos h
theorem cmp_1 {a b : Int} {p q : Int32} (hp : p = if a < 0 then 1 else 0) (hq : q = if b < 0 then 1 else 0) (h : ¬ p = q) : (p = 0 → sp_ord a b = 1) ∧ (¬ p = 0 → sp_ord a b = -1) := by
  by_cases x : a < 0 <;> by_cases y : b < 0
  · rw [if_pos x] at hp; rw [if_pos y] at hq; exact absurd (hp.trans hq.symm) h
  · rw [if_pos x] at hp
    refine ⟨fun z => ?_, fun _ => ?_⟩
    · rw [hp] at z; exact absurd z (by decide)
    · unfold sp_ord; rw [if_pos (by omega)]
  · rw [if_neg x] at hp
    refine ⟨fun _ => ?_, fun z => absurd hp z⟩
    unfold sp_ord; rw [if_neg (by omega), if_neg (by omega)]
  · rw [if_neg x] at hp; rw [if_neg y] at hq; exact absurd (hp.trans hq.symm) h
theorem cmp_2 {a b : Int} {p q : Int32} (hp : p = if a < 0 then 1 else 0) (hq : q = if b < 0 then 1 else 0) (h : p = q) : (p = 0 → sp_ord a b = sp_ord (a.natAbs : Int) (b.natAbs : Int)) ∧ (¬ p = 0 → sp_ord a b = -sp_ord (a.natAbs : Int) (b.natAbs : Int)) := by
  have d0 : ¬ (0 : Int32) = 1 := by decide
  by_cases x : a < 0 <;> by_cases y : b < 0
  · refine ⟨fun z => ?_, fun _ => ?_⟩
    · rw [if_pos x] at hp; rw [hp] at z; exact absurd z.symm d0
    · unfold sp_ord
      rcases Int.lt_trichotomy a b with q | q | q
      · rw [if_pos q, if_neg (by omega), if_neg (by omega)]
      · rw [if_neg (by omega), if_pos q, if_neg (by omega), if_pos (by omega)]; rfl
      · rw [if_neg (by omega), if_neg (by omega), if_pos (by omega)]; rfl
  · rw [if_pos x] at hp; rw [if_neg y] at hq; rw [hp, hq] at h; exact absurd h.symm d0
  · rw [if_neg x] at hp; rw [if_pos y] at hq; rw [hp, hq] at h; exact absurd h d0
  · refine ⟨fun _ => ?_, fun z => ?_⟩
    · rw [show (a.natAbs : Int) = a by omega, show (b.natAbs : Int) = b by omega]
    · rw [if_neg x] at hp; exact absurd hp z
-- the reference: read, keep, take, merge, enter, compare (laid by wip/whole/gen_mo.py)
theorem abs_m (a b : Int64) : a.toInt.natAbs * b.toInt.natAbs < 10 ^ 79 := by
  have h := Nat.mul_lt_mul_of_lt_of_lt (show a.toInt.natAbs < 10 ^ 20 by have := l_abs a; have e : (10 : Nat) ^ 20 = 100000000000000000000 := (by decide); omega) (show b.toInt.natAbs < 10 ^ 20 by have := l_abs b; have e : (10 : Nat) ^ 20 = 100000000000000000000 := (by decide); omega)
  exact Nat.lt_trans h (by decide)
theorem e80 {x y : Nat} (hx : x < 10 ^ 36) (hy : y < 10 ^ 79) : x + y < 10 ^ 80 := by
  have a : (10 : Nat) ^ 36 ≤ 10 ^ 79 := by decide
  have b : (10 : Nat) ^ 80 = 10 * 10 ^ 79 := by decide
  omega
set_option maxHeartbeats 4000000 in
set_option maxRecDepth 100000 in
theorem cM_read (l : Launch) (D : va_G) {tys : xT} {ws : va_W} {sz : Nat} {w0 : va_W} {ad : Nat → Nat} {cB : Nat → ClassId} {rf : Nat → Int64} {tf bf fa fb fc fr : Nat → Int32} {ng : Int32} (M : md w0 ws tys ad cB rf tf bf fa fb fc fr ng) {tv : Nat → Int} (T : mt tf bf tv) {t : Int32} (h : okT t) : xM l yX2_read (.code yX2_read cX2_read 3 none :: mdT) ({ frames := 0, cells := 0, slots := 0, locals := 0 }) D tys ws sz [.ref (ad 0), .int t] (xQv D tys (fun w => ∃ f1, md w0 w tys ad cB rf tf bf f1 fb fc fr (bf t.toNatClampNeg) ∧ dg f1 (tv t.toNatClampNeg).natAbs)) 0 0 := by
  refine xb_m (cc := cX2_read) (maxL := 3) (ret := none) (by decide) rfl (Nat.le_of_ble_eq_true rfl) ?_
  intro p e s m below meth c A ls hx hb hr hml hown hts hlocks hnm hA hP hK hD hS hl
  have hl : lv_has ls 3 [(0, .ref (ad 0)), (1, .int t)] := hl
  have hown : s.vm.findClass RX2 = some m.cls := hown
  have loop : ∀ (n i : Nat) (xi : Int32) (fi : Nat → Int32) (ws1 : va_W) (H : Heap) (locs : List Loc) (ls : Array Slot), i ≤ 80 → 80 < i + n → xi = nI i → md w0 ws1 tys ad cB rf tf bf fi fb fc fr ng → (∀ j, j < i → fi j = nI ((tv t.toNatClampNeg).natAbs / 10 ^ j % 10)) → va_P D vwCl ws1 H → va_D A ws1 → va_S A s.heap H locs → lv_has ls 3 [(0, .ref (ad 0)), (1, .int t), (2, .int xi)] → W p l e ({ frames := 0, cells := 0, slots := 0, locals := 0 }) s m [.ref (ad 0), .int t].toArray below meth c H locs 0 0 (MQ below (xQv D tys (fun w => ∃ f1, md w0 w tys ad cB rf tf bf f1 fb fc fr (bf t.toNatClampNeg) ∧ dg f1 (tv t.toNatClampNeg).natAbs) A) [.ref (ad 0), .int t].toArray s 0 0 A) (F0 m 2 ls []) := by
    intro n
    induction n with
    | zero =>
      intro i xi fi ws1 H locs ls h1 h2
      omega
    | succ n ih =>
      intro i xi fi ws1 H locs ls h1 h2 exi M hA1 hP hD hS hl
      refine lv_iload_n hx hb dX2_read_2 rfl (lv_at hl 2 rfl) ?_
      refine lv_bipush (v := 80) hx hb dX2_read_3 (by decide) ?_
      refine lv_icmp_ge (tgt := 41) hx hb dX2_read_5 (by decide) (fun c5 => ?_) (fun c5 => ?_)
      · have q80 := nge (M := 80) rfl exi (by decide) c5 (by omega)
        refine lv_aload_n hx hb dX2_read_41 rfl (lv_at hl 0 rfl) ?_
        refine lv_aload_n hx hb dX2_read_42 rfl (lv_at hl 0 rfl) ?_
        refine va_get (D := D) (ci := ciM) (v := .ref (ad 3)) (C := RX2) (T := TX2) (N := 8) hx hb hts inM hown hK hP 10 (md_a0 M) rfl 2 (by decide) (hts _ (inT mw_49)) (fun _ h9 => h9) rfl dX2_read_43 ?_
        refine lv_iload_n hx hb dX2_read_46 rfl (lv_at hl 1 rfl) ?_
        refine md_zld hx hb hK hP M h dX2_read_47 ?_
        refine va_put (D := D) (ci := ciM) (v := .int (bf t.toNatClampNeg)) (ty := .boolean) (C := RX2) (T := TX2) (N := 8) hx hb hts inM tyX2 tyX2_ok nmX2 hown hK hP hD hS 10 (md_a0 M) rfl 7 (by decide) (hts _ (inT mw_10)) (fun _ h9 => h9) rfl (by decide +kernel) (by rcases mt_01 T h with q | q <;> rw [q] <;> rfl) (by rcases mt_01 T h with q | q <;> rw [q] <;> rfl) (Nat.le_of_ble_eq_true rfl) dX2_read_48 (fun H locs hP hD hS => ?_)
        obtain ⟨ws2, hws2⟩ : ∃ q_, q_ = ws1.set 10 (ad 0, .inr (ciM, [.ref (ad 1), .ref (ad 2), .ref (ad 3), .ref (ad 4), .ref (ad 5), .ref (ad 6), .ref (ad 7), .int (bf t.toNatClampNeg)])) := ⟨_, rfl⟩
        have hP : va_P D vwCl ws2 H := by rw [hws2]; exact hP
        have hD : va_D A ws2 := by rw [hws2]; exact hD
        have M := md_sng M hws2
        exact xb_vr hx hb hr hlocks hP hK hD hS dX2_read_51 (⟨fi, M, fun j hj => hA1 j (by omega)⟩)
      · have hi8 := nlt (M := 80) rfl exi (by decide) c5 (by omega)
        refine lv_aload_n hx hb dX2_read_8 rfl (lv_at hl 0 rfl) ?_
        refine va_get (D := D) (ci := ciM) (v := .ref (ad 4)) (C := RX2) (T := TX2) (N := 8) hx hb hts inM hown hK hP 10 (md_a0 M) rfl 3 (by decide) (hts _ (inT mw_7)) (fun _ h9 => h9) rfl dX2_read_9 ?_
        refine lv_iload_n hx hb dX2_read_12 rfl (lv_at hl 2 rfl) ?_
        refine lv_iload_n hx hb dX2_read_13 rfl (lv_at hl 2 rfl) ?_
        refine lv_bipush (v := 36) hx hb dX2_read_14 (by decide) ?_
        refine lv_icmp_ge (tgt := 33) hx hb dX2_read_16 (by decide) (fun c16 => ?_) (fun c16 => ?_)
        · refine lv_iconst (v := 0) hx hb dX2_read_33 (by decide) ?_
          refine ia_st (x := 0) hx hb hK hP hD hS (md_a4 M) (md_t3 M) exi hi8 (by decide) dX2_read_34 (fun ws2 H locs hws2 hP hD hS => ?_)
          have M := md_sfa M hws2
          refine lv_iinc (v := xi + 1) (lv' := [(2, .int (xi + 1)), (0, .ref (ad 0)), (1, .int t)]) hx hb dX2_read_35 hl (k := 2) rfl (by rfl) (by decide) rfl (fun ls hl => ?_)
          refine lv_goto (tgt := 2) hx hb dX2_read_38 (by decide) ?_
          exact ih (i + 1) (xi + 1) _ ws2 H locs ls (by omega) (by omega) (by rw [exi]; exact nI_1 i) M (inv_lo hA1 (by rw [z36 (mt_l T h) (nge (M := 36) rfl exi (by decide) c16 (by omega))]; rfl)) hP hD hS (lv_sub hl [1, 2, 0] rfl)
        · have q36 := nlt (M := 36) rfl exi (by decide) c16 (by omega)
          refine lv_aload_n hx hb dX2_read_19 rfl (lv_at hl 0 rfl) ?_
          refine va_get (D := D) (ci := ciM) (v := .ref (ad 2)) (C := RX2) (T := TX2) (N := 8) hx hb hts inM hown hK hP 10 (md_a0 M) rfl 1 (by decide) (hts _ (inT mw_48)) (fun _ h9 => h9) rfl dX2_read_20 ?_
          refine lv_bipush (v := 40) hx hb dX2_read_23 (by decide) ?_
          refine lv_iload_n hx hb dX2_read_25 rfl (lv_at hl 1 rfl) ?_
          refine lv_imul hx hb dX2_read_26 ?_
          refine lv_iload_n hx hb dX2_read_27 rfl (lv_at hl 2 rfl) ?_
          refine lv_iadd hx hb dX2_read_28 ?_
          refine ia_ld hx hb hK hP (md_a2 M) (md_t1 M) (ix40 h exi) (lt160 h (show i < 40 by omega)) (by decide) dX2_read_29 ?_
          refine lv_goto (tgt := 34) hx hb dX2_read_30 (by decide) ?_
          refine ia_st (x := tf (40 * t.toNatClampNeg + i)) hx hb hK hP hD hS (md_a4 M) (md_t3 M) exi hi8 (by decide) dX2_read_34 (fun ws2 H locs hws2 hP hD hS => ?_)
          have M := md_sfa M hws2
          refine lv_iinc (v := xi + 1) (lv' := [(2, .int (xi + 1)), (0, .ref (ad 0)), (1, .int t)]) hx hb dX2_read_35 hl (k := 2) rfl (by rfl) (by decide) rfl (fun ls hl => ?_)
          refine lv_goto (tgt := 2) hx hb dX2_read_38 (by decide) ?_
          exact ih (i + 1) (xi + 1) _ ws2 H locs ls (by omega) (by omega) (by rw [exi]; exact nI_1 i) M (inv_lo hA1 (mt_d T h q36)) hP hD hS (lv_sub hl [1, 2, 0] rfl)
  refine lv_iconst (v := 0) hx hb dX2_read_0 (by decide) ?_
  refine lv_istore_n (lv' := [(2, .int 0), (0, .ref (ad 0)), (1, .int t)]) hx hb dX2_read_1 rfl hl (by decide) rfl (fun ls hl => ?_)
  exact loop 81 0 0 fa ws s.heap [] ls (by omega) (by omega) nI_0.symm M (fun j hj => absurd hj (by omega)) hP hD hS (lv_sub hl [1, 2, 0] rfl)
set_option maxHeartbeats 4000000 in
set_option maxRecDepth 100000 in
theorem cM_keep (l : Launch) (D : va_G) {tys : xT} {ws : va_W} {sz : Nat} {w0 : va_W} {ad : Nat → Nat} {cB : Nat → ClassId} {rf : Nat → Int64} {tf bf fa fb fc fr : Nat → Int32} {ng : Int32} (M : md w0 ws tys ad cB rf tf bf fa fb fc fr ng) {tv : Nat → Int} (T : mt tf bf tv) {x : Nat} (hda : dg fa x) (hxl : x < 10 ^ 80) (hng : ng = 0 ∨ ng = 1) {t : Int32} (h : okT t) : xM l yX2_keep (.code yX2_keep cX2_keep 4 (some .int) :: mdT) ({ frames := 1, cells := 0, slots := 0, locals := 22 }) D tys ws sz [.ref (ad 0), .int t] (xQi D tys (fun a w => (∃ tf1 bf1, md w0 w tys ad cB rf tf1 bf1 fa fb fc fr ng ∧ mt tf1 bf1 (sp_kT (rf, tv) t (sv ng x)).2.2) ∧ a = (sp_kT (rf, tv) t (sv ng x)).1)) 0 0 := by
  refine xb_m (cc := cX2_keep) (maxL := 4) (ret := (some .int)) (by decide) rfl (Nat.le_of_ble_eq_true rfl) ?_
  intro p e s m below meth c A ls hx hb hr hml hown hts hlocks hnm hA hP hK hD hS hl
  have hl : lv_has ls 4 [(0, .ref (ad 0)), (1, .int t)] := hl
  have hown : s.vm.findClass RX2 = some m.cls := hown
  have loop2 : ∀ (n i : Nat) (xi : Int32) (ti : Nat → Int32) (ws1 : va_W) (H : Heap) (locs : List Loc) (ls : Array Slot), x < 10 ^ 36 → i ≤ 36 → 36 < i + n → xi = nI i → md w0 ws1 tys ad cB rf ti bf fa fb fc fr ng → (∀ k, k < i → ti (40 * t.toNatClampNeg + k) = nI (x / 10 ^ k % 10)) → (∀ q, (q < 40 * t.toNatClampNeg ∨ 40 * t.toNatClampNeg + i ≤ q) → ti q = tf q) → va_P D vwCl ws1 H → va_D A ws1 → va_S A s.heap H locs → lv_has ls 4 [(0, .ref (ad 0)), (1, .int t), (3, .int xi)] → W p l e ({ frames := 1, cells := 0, slots := 0, locals := 22 }) s m [.ref (ad 0), .int t].toArray below meth c H locs 0 0 (MQ below (xQi D tys (fun a w => (∃ tf1 bf1, md w0 w tys ad cB rf tf1 bf1 fa fb fc fr ng ∧ mt tf1 bf1 (sp_kT (rf, tv) t (sv ng x)).2.2) ∧ a = (sp_kT (rf, tv) t (sv ng x)).1) A) [.ref (ad 0), .int t].toArray s 0 0 A) (F0 m 55 ls []) := by
    intro n
    induction n with
    | zero =>
      intro i xi ti ws1 H locs ls hx36 h1 h2
      omega
    | succ n ih =>
      intro i xi ti ws1 H locs ls hx36 h1 h2 exi M hT1 hT2 hP hD hS hl
      refine lv_iload_n hx hb dX2_keep_55 rfl (lv_at hl 2 rfl) ?_
      refine lv_bipush (v := 36) hx hb dX2_keep_56 (by decide) ?_
      refine lv_icmp_ge (tgt := 84) hx hb dX2_keep_58 (by decide) (fun c58 => ?_) (fun c58 => ?_)
      · have q36 := nge (M := 36) rfl exi (by decide) c58 (by omega)
        have e36 : i = 36 := by omega
        subst e36
        have hp := p36
        refine lv_aload_n hx hb dX2_keep_84 rfl (lv_at hl 0 rfl) ?_
        refine va_get (D := D) (ci := ciM) (v := .ref (ad 3)) (C := RX2) (T := TX2) (N := 8) hx hb hts inM hown hK hP 10 (md_a0 M) rfl 2 (by decide) (hts _ (inT mw_49)) (fun _ h9 => h9) rfl dX2_keep_85 ?_
        refine lv_iload_n hx hb dX2_keep_88 rfl (lv_at hl 1 rfl) ?_
        refine lv_aload_n hx hb dX2_keep_89 rfl (lv_at hl 0 rfl) ?_
        refine va_get (D := D) (ci := ciM) (v := .int ng) (C := RX2) (T := TX2) (N := 8) hx hb hts inM hown hK hP 10 (md_a0 M) rfl 7 (by decide) (hts _ (inT mw_10)) (fun _ h9 => h9) rfl dX2_keep_90 ?_
        refine lv_if_eq (tgt := 110) hx hb dX2_keep_93 (by decide) (fun c93 => ?_) (fun c93 => ?_)
        · refine lv_iconst (v := 0) hx hb dX2_keep_110 (by decide) ?_
          refine md_zst hx hb hK hP hD hS M h (Or.inl rfl) dX2_keep_111 (fun ws2 H locs M hP hD hS => ?_)
          refine lv_iconst (v := 0) hx hb dX2_keep_112 (by decide) ?_
          exact xb_ir hx hb hr hlocks hP hK hD hS dX2_keep_113 (by have es := sv_0 (x := x) c93; refine ⟨⟨_, _, M, ?_⟩, ?_⟩; rw [sp_kT, if_neg (by omega), if_neg (by omega)]; exact mt_up T h hx36 hT1 hT2 (by rw [if_neg (by omega)]); rw [sp_kT, if_neg (by omega), if_neg (by omega)])
        · refine lv_aload_n hx hb dX2_keep_96 rfl (lv_at hl 0 rfl) ?_
          refine va_get (D := D) (ci := ciM) (v := .ref (ad 4)) (C := RX2) (T := TX2) (N := 8) hx hb hts inM hown hK hP 10 (md_a0 M) rfl 3 (by decide) (hts _ (inT mw_7)) (fun _ h9 => h9) rfl dX2_keep_97 ?_
          refine xb_ri (va_runS (As := [.ref (ad 4)]) (rest := [.int t, .ref (ad 3)]) ⟨hx, hb, hml, hown, hts⟩ (cM_isn l D (md_a4 M) (md_t3 M) hda hxl) (va_cwS 1 hts (gM_S 85 yX2_isNothing (.code yX2_isNothing cX2_isNothing 3 (some .boolean)) (by decide +kernel) mw_69) rfl rfl rfl (by decide +kernel) ⟨Nat.le_of_ble_eq_true rfl, Nat.le_of_ble_eq_true rfl⟩) (xb_ps rfl hP hK hD) rfl rfl hl.1 rfl (lv_room (Nat.le_of_ble_eq_true rfl)) dX2_keep_100 ⟨Nat.le_of_ble_eq_true rfl, Nat.le_of_ble_eq_true rfl⟩) hD hS hA (fun r100 ws2 H locs hws2 hP hD hS => ?_)
          obtain ⟨hr100, rfl⟩ := hws2
          refine lv_if_ne (tgt := 110) hx hb dX2_keep_103 (by decide) (fun c103 => ?_) (fun c103 => ?_)
          · have c103 := bz_1 hr100 c103
            refine lv_iconst (v := 0) hx hb dX2_keep_110 (by decide) ?_
            refine md_zst hx hb hK hP hD hS M h (Or.inl rfl) dX2_keep_111 (fun ws3 H locs M hP hD hS => ?_)
            refine lv_iconst (v := 0) hx hb dX2_keep_112 (by decide) ?_
            exact xb_ir hx hb hr hlocks hP hK hD hS dX2_keep_113 (by have es := sv_1 (x := x) (n01 hng c93); refine ⟨⟨_, _, M, ?_⟩, ?_⟩; rw [sp_kT, if_neg (by omega), if_neg (by omega)]; exact mt_up T h hx36 hT1 hT2 (by rw [if_neg (by omega)]); rw [sp_kT, if_neg (by omega), if_neg (by omega)])
          · have c103 := bz_0 hr100 c103
            refine lv_iconst (v := 1) hx hb dX2_keep_106 (by decide) ?_
            refine lv_goto (tgt := 111) hx hb dX2_keep_107 (by decide) ?_
            refine md_zst hx hb hK hP hD hS M h (Or.inr rfl) dX2_keep_111 (fun ws3 H locs M hP hD hS => ?_)
            refine lv_iconst (v := 0) hx hb dX2_keep_112 (by decide) ?_
            exact xb_ir hx hb hr hlocks hP hK hD hS dX2_keep_113 (by have es := sv_1 (x := x) (n01 hng c93); refine ⟨⟨_, _, M, ?_⟩, ?_⟩; rw [sp_kT, if_neg (by omega), if_neg (by omega)]; exact mt_up T h hx36 hT1 hT2 (by rw [if_pos (by omega)]); rw [sp_kT, if_neg (by omega), if_neg (by omega)])
      · have hi36 := nlt (M := 36) rfl exi (by decide) c58 (by omega)
        refine lv_aload_n hx hb dX2_keep_61 rfl (lv_at hl 0 rfl) ?_
        refine va_get (D := D) (ci := ciM) (v := .ref (ad 2)) (C := RX2) (T := TX2) (N := 8) hx hb hts inM hown hK hP 10 (md_a0 M) rfl 1 (by decide) (hts _ (inT mw_48)) (fun _ h9 => h9) rfl dX2_keep_62 ?_
        refine lv_bipush (v := 40) hx hb dX2_keep_65 (by decide) ?_
        refine lv_iload_n hx hb dX2_keep_67 rfl (lv_at hl 1 rfl) ?_
        refine lv_imul hx hb dX2_keep_68 ?_
        refine lv_iload_n hx hb dX2_keep_69 rfl (lv_at hl 2 rfl) ?_
        refine lv_iadd hx hb dX2_keep_70 ?_
        refine lv_aload_n hx hb dX2_keep_71 rfl (lv_at hl 0 rfl) ?_
        refine va_get (D := D) (ci := ciM) (v := .ref (ad 4)) (C := RX2) (T := TX2) (N := 8) hx hb hts inM hown hK hP 10 (md_a0 M) rfl 3 (by decide) (hts _ (inT mw_7)) (fun _ h9 => h9) rfl dX2_keep_72 ?_
        refine lv_iload_n hx hb dX2_keep_75 rfl (lv_at hl 2 rfl) ?_
        refine ia_ld hx hb hK hP (md_a4 M) (md_t3 M) exi (show i < 80 by omega) (by decide) dX2_keep_76 ?_
        refine ia_st (x := fa i) hx hb hK hP hD hS (md_a2 M) (md_t1 M) (ix40 h exi) (lt160 h (show i < 40 by omega)) (by decide) dX2_keep_77 (fun ws2 H locs hws2 hP hD hS => ?_)
        have M := md_stf M hws2
        refine lv_iinc (v := xi + 1) (lv' := [(3, .int (xi + 1)), (0, .ref (ad 0)), (1, .int t)]) hx hb dX2_keep_78 hl (k := 2) rfl (by rfl) (by decide) rfl (fun ls hl => ?_)
        refine lv_goto (tgt := 55) hx hb dX2_keep_81 (by decide) ?_
        exact ih (i + 1) (xi + 1) _ ws2 H locs ls hx36 (by omega) (by omega) (by rw [exi]; exact nI_1 i) M (tJ1 hT1 (hda i (by omega))) (tJ2 hT2) hP hD hS (lv_sub hl [1, 2, 0] rfl)
  have loop1 : ∀ (n i : Nat) (xi x2 : Int32) (ls : Array Slot), 36 ≤ i → i ≤ 80 → 80 < i + n → xi = nI i → x2 = (if 10 ^ 36 ≤ x % 10 ^ i then 1 else 0) → lv_has ls 4 [(0, .ref (ad 0)), (1, .int t), (2, .int x2), (3, .int xi)] → W p l e ({ frames := 1, cells := 0, slots := 0, locals := 22 }) s m [.ref (ad 0), .int t].toArray below meth c s.heap [] 0 0 (MQ below (xQi D tys (fun a w => (∃ tf1 bf1, md w0 w tys ad cB rf tf1 bf1 fa fb fc fr ng ∧ mt tf1 bf1 (sp_kT (rf, tv) t (sv ng x)).2.2) ∧ a = (sp_kT (rf, tv) t (sv ng x)).1) A) [.ref (ad 0), .int t].toArray s 0 0 A) (F0 m 5 ls []) := by
    intro n
    induction n with
    | zero =>
      intro i xi x2 ls h0 h1 h2
      omega
    | succ n ih =>
      intro i xi x2 ls h0 h1 h2 exi ex2 hl
      refine lv_iload_n hx hb dX2_keep_5 rfl (lv_at hl 3 rfl) ?_
      refine lv_bipush (v := 80) hx hb dX2_keep_6 (by decide) ?_
      refine lv_icmp_ge (tgt := 36) hx hb dX2_keep_8 (by decide) (fun c8 => ?_) (fun c8 => ?_)
      · have q80 := nge (M := 80) rfl exi (by decide) c8 (by omega)
        have e80 : i = 80 := by omega
        subst e80
        rw [Nat.mod_eq_of_lt hxl] at ex2
        have hp := p36
        refine lv_iload_n hx hb dX2_keep_36 rfl (lv_at hl 2 rfl) ?_
        refine lv_if_eq (tgt := 53) hx hb dX2_keep_37 (by decide) (fun c37 => ?_) (fun c37 => ?_)
        · have c37 := bz_0 ex2 c37
          refine lv_iconst (v := 0) hx hb dX2_keep_53 (by decide) ?_
          refine lv_istore_n (lv' := [(3, .int 0), (0, .ref (ad 0)), (1, .int t), (2, .int x2)]) hx hb dX2_keep_54 rfl hl (by decide) rfl (fun ls hl => ?_)
          exact loop2 37 0 0 tf ws s.heap [] ls (Nat.lt_of_not_le c37) (by omega) (by omega) nI_0.symm M (fun k hk => absurd hk (by omega)) (fun q _ => rfl) hP hD hS (lv_sub hl [1, 2, 0] rfl)
        · have c37 := bz_1 ex2 c37
          refine lv_aload_n hx hb dX2_keep_40 rfl (lv_at hl 0 rfl) ?_
          refine va_get (D := D) (ci := ciM) (v := .int ng) (C := RX2) (T := TX2) (N := 8) hx hb hts inM hown hK hP 10 (md_a0 M) rfl 7 (by decide) (hts _ (inT mw_10)) (fun _ h9 => h9) rfl dX2_keep_41 ?_
          refine lv_if_eq (tgt := 51) hx hb dX2_keep_44 (by decide) (fun c44 => ?_) (fun c44 => ?_)
          · refine lv_iconst (v := 1) hx hb dX2_keep_51 (by decide) ?_
            exact xb_ir hx hb hr hlocks hP hK hD hS dX2_keep_52 (by have es := sv_0 (x := x) c44; rw [sp_kT, if_pos (by omega)]; exact ⟨⟨_, _, M, T⟩, rfl⟩)
          · refine lv_iconst (v := 2) hx hb dX2_keep_47 (by decide) ?_
            refine lv_goto (tgt := 52) hx hb dX2_keep_48 (by decide) ?_
            exact xb_ir hx hb hr hlocks hP hK hD hS dX2_keep_52 (by have es := sv_1 (x := x) (n01 hng c44); rw [sp_kT, if_neg (by omega), if_pos (by omega)]; exact ⟨⟨_, _, M, T⟩, rfl⟩)
      · have hi8 := nlt (M := 80) rfl exi (by decide) c8 (by omega)
        refine lv_iload_n hx hb dX2_keep_11 rfl (lv_at hl 2 rfl) ?_
        refine lv_if_ne (tgt := 24) hx hb dX2_keep_12 (by decide) (fun c12 => ?_) (fun c12 => ?_)
        · have c12 := bz_1 ex2 c12
          refine lv_iconst (v := 1) hx hb dX2_keep_24 (by decide) ?_
          refine lv_goto (tgt := 29) hx hb dX2_keep_25 (by decide) ?_
          refine lv_istore_n (lv' := [(2, .int 1), (0, .ref (ad 0)), (1, .int t), (3, .int xi)]) hx hb dX2_keep_29 rfl hl (by decide) rfl (fun ls hl => ?_)
          refine lv_iinc (v := xi + 1) (lv' := [(3, .int (xi + 1)), (2, .int 1), (0, .ref (ad 0)), (1, .int t)]) hx hb dX2_keep_30 hl (k := 3) rfl (by rfl) (by decide) rfl (fun ls hl => ?_)
          refine lv_goto (tgt := 5) hx hb dX2_keep_33 (by decide) ?_
          exact ih (i + 1) (xi + 1) 1 ls (by omega) (by omega) (by omega) (by rw [exi]; exact nI_1 i) (by rw [if_pos (wd_1 h0 c12)]) (lv_sub hl [2, 3, 1, 0] rfl)
        · have c12 := bz_0 ex2 c12
          refine lv_aload_n hx hb dX2_keep_15 rfl (lv_at hl 0 rfl) ?_
          refine va_get (D := D) (ci := ciM) (v := .ref (ad 4)) (C := RX2) (T := TX2) (N := 8) hx hb hts inM hown hK hP 10 (md_a0 M) rfl 3 (by decide) (hts _ (inT mw_7)) (fun _ h9 => h9) rfl dX2_keep_16 ?_
          refine lv_iload_n hx hb dX2_keep_19 rfl (lv_at hl 3 rfl) ?_
          refine ia_ld hx hb hK hP (md_a4 M) (md_t3 M) exi hi8 (by decide) dX2_keep_20 ?_
          refine lv_if_le (tgt := 28) hx hb dX2_keep_21 (by decide) (fun c21 => ?_) (fun c21 => ?_)
          · refine lv_iconst (v := 0) hx hb dX2_keep_28 (by decide) ?_
            refine lv_istore_n (lv' := [(2, .int 0), (0, .ref (ad 0)), (1, .int t), (3, .int xi)]) hx hb dX2_keep_29 rfl hl (by decide) rfl (fun ls hl => ?_)
            refine lv_iinc (v := xi + 1) (lv' := [(3, .int (xi + 1)), (2, .int 0), (0, .ref (ad 0)), (1, .int t)]) hx hb dX2_keep_30 hl (k := 3) rfl (by rfl) (by decide) rfl (fun ls hl => ?_)
            refine lv_goto (tgt := 5) hx hb dX2_keep_33 (by decide) ?_
            exact ih (i + 1) (xi + 1) 0 ls (by omega) (by omega) (by omega) (by rw [exi]; exact nI_1 i) (by rw [hda i hi8, nI_le0 (d9 x i)] at c21; rw [if_neg (wd_3 c12 c21)]) (lv_sub hl [2, 3, 1, 0] rfl)
          · refine lv_iconst (v := 1) hx hb dX2_keep_24 (by decide) ?_
            refine lv_goto (tgt := 29) hx hb dX2_keep_25 (by decide) ?_
            refine lv_istore_n (lv' := [(2, .int 1), (0, .ref (ad 0)), (1, .int t), (3, .int xi)]) hx hb dX2_keep_29 rfl hl (by decide) rfl (fun ls hl => ?_)
            refine lv_iinc (v := xi + 1) (lv' := [(3, .int (xi + 1)), (2, .int 1), (0, .ref (ad 0)), (1, .int t)]) hx hb dX2_keep_30 hl (k := 3) rfl (by rfl) (by decide) rfl (fun ls hl => ?_)
            refine lv_goto (tgt := 5) hx hb dX2_keep_33 (by decide) ?_
            exact ih (i + 1) (xi + 1) 1 ls (by omega) (by omega) (by omega) (by rw [exi]; exact nI_1 i) (by rw [hda i hi8, nI_le0 (d9 x i)] at c21; rw [if_pos (wd_2 h0 c21)]) (lv_sub hl [2, 3, 1, 0] rfl)
  refine lv_iconst (v := 0) hx hb dX2_keep_0 (by decide) ?_
  refine lv_istore_n (lv' := [(2, .int 0), (0, .ref (ad 0)), (1, .int t)]) hx hb dX2_keep_1 rfl hl (by decide) rfl (fun ls hl => ?_)
  refine lv_bipush (v := 36) hx hb dX2_keep_2 (by decide) ?_
  refine lv_istore_n (lv' := [(3, .int 36), (2, .int 0), (0, .ref (ad 0)), (1, .int t)]) hx hb dX2_keep_4 rfl hl (by decide) rfl (fun ls hl => ?_)
  exact loop1 81 36 36 0 ls (by omega) (by omega) (by omega) rfl (by rw [if_neg (Nat.not_le.mpr (Nat.mod_lt _ (p10 36)))]) (lv_sub hl [2, 3, 1, 0] rfl)
set_option maxHeartbeats 4000000 in
set_option maxRecDepth 100000 in
theorem cM_take (l : Launch) (D : va_G) {tys : xT} {ws : va_W} {sz : Nat} {w0 : va_W} {ad : Nat → Nat} {cB : Nat → ClassId} {rf : Nat → Int64} {tf bf fa fb fc fr : Nat → Int32} {ng : Int32} (M : md w0 ws tys ad cB rf tf bf fa fb fc fr ng) {tv : Nat → Int} (T : mt tf bf tv) (t r : Int32) : xM l yX2_take (.code yX2_take cX2_take 3 (some .int) :: mdT) ({ frames := 2, cells := 0, slots := 0, locals := 50 }) D tys ws sz [.ref (ad 0), .int t, .int r] (xQi D tys (fun a w => mdS w0 w tys ad cB (sp_take (rf, tv) t r).2 ∧ a = (sp_take (rf, tv) t r).1)) 0 0 := by
  refine xb_m (cc := cX2_take) (maxL := 3) (ret := (some .int)) (by decide) rfl (Nat.le_of_ble_eq_true rfl) ?_
  intro p e s m below meth c A ls hx hb hr hml hown hts hlocks hnm hA hP hK hD hS hl
  have hl : lv_has ls 3 [(0, .ref (ad 0)), (1, .int t), (2, .int r)] := hl
  have hown : s.vm.findClass RX2 = some m.cls := hown
  refine lv_iload_n hx hb dX2_take_0 rfl (lv_at hl 1 rfl) ?_
  refine xb_ri (va_runS (As := [.int t]) (rest := []) ⟨hx, hb, hml, hown, hts⟩ (cM_isT l D t) (va_cwS 1 hts (gM_S 89 yX2_isTally (.code yX2_isTally cX2_isTally 1 (some .boolean)) (by decide +kernel) mw_71) rfl rfl rfl (by decide +kernel) ⟨Nat.le_of_ble_eq_true rfl, Nat.le_of_ble_eq_true rfl⟩) (xb_ps rfl hP hK hD) rfl rfl hl.1 rfl (lv_room (Nat.le_of_ble_eq_true rfl)) dX2_take_1 ⟨Nat.le_of_ble_eq_true rfl, Nat.le_of_ble_eq_true rfl⟩) hD hS hA (fun r1 ws1 H locs hws1 hP hD hS => ?_)
  obtain ⟨hr1, rfl⟩ := hws1
  refine lv_if_eq (tgt := 14) hx hb dX2_take_4 (by decide) (fun c4 => ?_) (fun c4 => ?_)
  · have c4 := bz_0 hr1 c4
    refine lv_iconst (v := (-1)) hx hb dX2_take_14 (by decide) ?_
    exact xb_ir hx hb hr hlocks hP hK hD hS dX2_take_15 (fin_no M T (by rw [sp_take, if_neg (fun q => c4 q.1)]))
  · have c4 := bz_1 hr1 c4
    refine lv_iload_n hx hb dX2_take_7 rfl (lv_at hl 2 rfl) ?_
    refine xb_ri (va_runS (As := [.int r]) (rest := []) ⟨hx, hb, hml, hown, hts⟩ (cM_isR l D r) (va_cwS 1 hts (gM_S 33 yX2_isRegister (.code yX2_isRegister cX2_isRegister 1 (some .boolean)) (by decide +kernel) mw_52) rfl rfl rfl (by decide +kernel) ⟨Nat.le_of_ble_eq_true rfl, Nat.le_of_ble_eq_true rfl⟩) (xb_ps rfl hP hK hD) rfl rfl hl.1 rfl (lv_room (Nat.le_of_ble_eq_true rfl)) dX2_take_8 ⟨Nat.le_of_ble_eq_true rfl, Nat.le_of_ble_eq_true rfl⟩) hD hS hA (fun r8 ws2 H locs hws2 hP hD hS => ?_)
    obtain ⟨hr8, rfl⟩ := hws2
    refine lv_if_ne (tgt := 16) hx hb dX2_take_11 (by decide) (fun c11 => ?_) (fun c11 => ?_)
    · have c11 := bz_1 hr8 c11
      refine lv_aload_n hx hb dX2_take_16 rfl (lv_at hl 0 rfl) ?_
      refine lv_iload_n hx hb dX2_take_17 rfl (lv_at hl 1 rfl) ?_
      refine xb_rv (va_runV (As := [.int t]) (rest := []) ⟨hx, hb, hml, hown, hts⟩ (cM_read l D M T c4) (cwV 1 hts (gM_V 92 yX2_read (.code yX2_read cX2_read 3 none) (by decide +kernel) mw_72) rfl rfl rfl (by decide +kernel) ⟨Nat.le_of_ble_eq_true rfl, Nat.le_of_ble_eq_true rfl⟩) (xb_pv hP hK hD rfl rfl (md_a0 M)) rfl rfl hl.1 rfl (lv_room (Nat.le_of_ble_eq_true rfl)) dX2_take_18 ⟨Nat.le_of_ble_eq_true rfl, Nat.le_of_ble_eq_true rfl⟩) hD hS hA (fun ws3 H locs hws3 hP hD hS => ?_)
      obtain ⟨fa_18, M, hdfa_18⟩ := hws3
      refine lv_aload_n hx hb dX2_take_21 rfl (lv_at hl 0 rfl) ?_
      refine lv_iload_n hx hb dX2_take_22 rfl (lv_at hl 2 rfl) ?_
      refine xb_ri (va_runV (As := [.int r]) (rest := []) ⟨hx, hb, hml, hown, hts⟩ (cM_store l D M tv hdfa_18 (b80 (mt_l T c4)) (mt_01 T c4) c11) (cwV 1 hts (gM_V 71 yX2_store (.code yX2_store cX2_store 5 (some .int)) (by decide +kernel) mw_62) rfl rfl rfl (by decide +kernel) ⟨Nat.le_of_ble_eq_true rfl, Nat.le_of_ble_eq_true rfl⟩) (xb_pv hP hK hD rfl rfl (md_a0 M)) rfl rfl hl.1 rfl (lv_room (Nat.le_of_ble_eq_true rfl)) dX2_take_23 ⟨Nat.le_of_ble_eq_true rfl, Nat.le_of_ble_eq_true rfl⟩) hD hS hA (fun r23 ws4 H locs hws4 hP hD hS => ?_)
      exact xb_ir hx hb hr hlocks hP hK hD hS dX2_take_26 (fin_kR T hws4 (take_eq ⟨c4, c11⟩ (mt_s T c4)))
    · have c11 := bz_0 hr8 c11
      refine lv_iconst (v := (-1)) hx hb dX2_take_14 (by decide) ?_
      exact xb_ir hx hb hr hlocks hP hK hD hS dX2_take_15 (fin_no M T (by rw [sp_take, if_neg (fun q => c11 q.2)]))
set_option maxHeartbeats 4000000 in
set_option maxRecDepth 100000 in
theorem cM_merge (l : Launch) (D : va_G) {tys : xT} {ws : va_W} {sz : Nat} {w0 : va_W} {ad : Nat → Nat} {cB : Nat → ClassId} {rf : Nat → Int64} {tf bf fa fb fc fr : Nat → Int32} {ng : Int32} (M : md w0 ws tys ad cB rf tf bf fa fb fc fr ng) {tv : Nat → Int} (T : mt tf bf tv) (t u : Int32) : xM l yX2_merge (.code yX2_merge cX2_merge 3 (some .int) :: mdT) ({ frames := 2, cells := 0, slots := 0, locals := 45 }) D tys ws sz [.ref (ad 0), .int t, .int u] (xQi D tys (fun a w => mdS w0 w tys ad cB (sp_merge (rf, tv) t u).2 ∧ a = (sp_merge (rf, tv) t u).1)) 0 0 := by
  refine xb_m (cc := cX2_merge) (maxL := 3) (ret := (some .int)) (by decide) rfl (Nat.le_of_ble_eq_true rfl) ?_
  intro p e s m below meth c A ls hx hb hr hml hown hts hlocks hnm hA hP hK hD hS hl
  have hl : lv_has ls 3 [(0, .ref (ad 0)), (1, .int t), (2, .int u)] := hl
  have hown : s.vm.findClass RX2 = some m.cls := hown
  refine lv_iload_n hx hb dX2_merge_0 rfl (lv_at hl 1 rfl) ?_
  refine xb_ri (va_runS (As := [.int t]) (rest := []) ⟨hx, hb, hml, hown, hts⟩ (cM_isT l D t) (va_cwS 1 hts (gM_S 89 yX2_isTally (.code yX2_isTally cX2_isTally 1 (some .boolean)) (by decide +kernel) mw_71) rfl rfl rfl (by decide +kernel) ⟨Nat.le_of_ble_eq_true rfl, Nat.le_of_ble_eq_true rfl⟩) (xb_ps rfl hP hK hD) rfl rfl hl.1 rfl (lv_room (Nat.le_of_ble_eq_true rfl)) dX2_merge_1 ⟨Nat.le_of_ble_eq_true rfl, Nat.le_of_ble_eq_true rfl⟩) hD hS hA (fun r1 ws1 H locs hws1 hP hD hS => ?_)
  obtain ⟨hr1, rfl⟩ := hws1
  refine lv_if_eq (tgt := 14) hx hb dX2_merge_4 (by decide) (fun c4 => ?_) (fun c4 => ?_)
  · have c4 := bz_0 hr1 c4
    refine lv_iconst (v := (-1)) hx hb dX2_merge_14 (by decide) ?_
    exact xb_ir hx hb hr hlocks hP hK hD hS dX2_merge_15 (fin_no M T (by rw [sp_merge, if_neg (fun q => c4 q.1)]))
  · have c4 := bz_1 hr1 c4
    refine lv_iload_n hx hb dX2_merge_7 rfl (lv_at hl 2 rfl) ?_
    refine xb_ri (va_runS (As := [.int u]) (rest := []) ⟨hx, hb, hml, hown, hts⟩ (cM_isT l D u) (va_cwS 1 hts (gM_S 89 yX2_isTally (.code yX2_isTally cX2_isTally 1 (some .boolean)) (by decide +kernel) mw_71) rfl rfl rfl (by decide +kernel) ⟨Nat.le_of_ble_eq_true rfl, Nat.le_of_ble_eq_true rfl⟩) (xb_ps rfl hP hK hD) rfl rfl hl.1 rfl (lv_room (Nat.le_of_ble_eq_true rfl)) dX2_merge_8 ⟨Nat.le_of_ble_eq_true rfl, Nat.le_of_ble_eq_true rfl⟩) hD hS hA (fun r8 ws2 H locs hws2 hP hD hS => ?_)
    obtain ⟨hr8, rfl⟩ := hws2
    refine lv_if_ne (tgt := 16) hx hb dX2_merge_11 (by decide) (fun c11 => ?_) (fun c11 => ?_)
    · have c11 := bz_1 hr8 c11
      refine lv_aload_n hx hb dX2_merge_16 rfl (lv_at hl 0 rfl) ?_
      refine lv_iload_n hx hb dX2_merge_17 rfl (lv_at hl 2 rfl) ?_
      refine xb_rv (va_runV (As := [.int u]) (rest := []) ⟨hx, hb, hml, hown, hts⟩ (cM_read l D M T c11) (cwV 1 hts (gM_V 92 yX2_read (.code yX2_read cX2_read 3 none) (by decide +kernel) mw_72) rfl rfl rfl (by decide +kernel) ⟨Nat.le_of_ble_eq_true rfl, Nat.le_of_ble_eq_true rfl⟩) (xb_pv hP hK hD rfl rfl (md_a0 M)) rfl rfl hl.1 rfl (lv_room (Nat.le_of_ble_eq_true rfl)) dX2_merge_18 ⟨Nat.le_of_ble_eq_true rfl, Nat.le_of_ble_eq_true rfl⟩) hD hS hA (fun ws3 H locs hws3 hP hD hS => ?_)
      obtain ⟨fa_18, M, hdfa_18⟩ := hws3
      refine lv_aload_n hx hb dX2_merge_21 rfl (lv_at hl 0 rfl) ?_
      refine va_get (D := D) (ci := ciM) (v := .ref (ad 4)) (C := RX2) (T := TX2) (N := 8) hx hb hts inM hown hK hP 10 (md_a0 M) rfl 3 (by decide) (hts _ (inT mw_7)) (fun _ h9 => h9) rfl dX2_merge_22 ?_
      refine lv_aload_n hx hb dX2_merge_25 rfl (lv_at hl 0 rfl) ?_
      refine va_get (D := D) (ci := ciM) (v := .ref (ad 6)) (C := RX2) (T := TX2) (N := 8) hx hb hts inM hown hK hP 10 (md_a0 M) rfl 5 (by decide) (hts _ (inT mw_11)) (fun _ h9 => h9) rfl dX2_merge_26 ?_
      refine xb_rv (va_runS (As := [.ref (ad 4), .ref (ad 6)]) (rest := []) ⟨hx, hb, hml, hown, hts⟩ (cM_copy l D (md_a6 M) (md_t5 M) (md_a4 M) (md_t3 M) (by decide)) (va_cwS 2 hts (gM_S 43 yX2_copy (.code yX2_copy cX2_copy 3 none) (by decide +kernel) mw_61) rfl rfl rfl (by decide +kernel) ⟨Nat.le_of_ble_eq_true rfl, Nat.le_of_ble_eq_true rfl⟩) (xb_ps rfl hP hK hD) rfl rfl hl.1 rfl (lv_room (Nat.le_of_ble_eq_true rfl)) dX2_merge_29 ⟨Nat.le_of_ble_eq_true rfl, Nat.le_of_ble_eq_true rfl⟩) hD hS hA (fun ws4 H locs hws4 hP hD hS => ?_)
      obtain ⟨fc_29, hws4, hdfc_29⟩ := hws4
      have M := md_sfc M hws4
      have hdfc_29 : dg fc_29 ((tv u.toNatClampNeg).natAbs) := fun j hj => (hdfc_29 j hj).trans (hdfa_18 j hj)
      refine lv_aload_n hx hb dX2_merge_32 rfl (lv_at hl 0 rfl) ?_
      refine lv_iload_n hx hb dX2_merge_33 rfl (lv_at hl 1 rfl) ?_
      refine xb_rv (va_runV (As := [.int t]) (rest := []) ⟨hx, hb, hml, hown, hts⟩ (cM_read l D M T c4) (cwV 1 hts (gM_V 92 yX2_read (.code yX2_read cX2_read 3 none) (by decide +kernel) mw_72) rfl rfl rfl (by decide +kernel) ⟨Nat.le_of_ble_eq_true rfl, Nat.le_of_ble_eq_true rfl⟩) (xb_pv hP hK hD rfl rfl (md_a0 M)) rfl rfl hl.1 rfl (lv_room (Nat.le_of_ble_eq_true rfl)) dX2_merge_34 ⟨Nat.le_of_ble_eq_true rfl, Nat.le_of_ble_eq_true rfl⟩) hD hS hA (fun ws5 H locs hws5 hP hD hS => ?_)
      obtain ⟨fa_34, M, hdfa_34⟩ := hws5
      refine lv_aload_n hx hb dX2_merge_37 rfl (lv_at hl 0 rfl) ?_
      refine lv_aload_n hx hb dX2_merge_38 rfl (lv_at hl 0 rfl) ?_
      refine va_get (D := D) (ci := ciM) (v := .ref (ad 3)) (C := RX2) (T := TX2) (N := 8) hx hb hts inM hown hK hP 10 (md_a0 M) rfl 2 (by decide) (hts _ (inT mw_49)) (fun _ h9 => h9) rfl dX2_merge_39 ?_
      refine lv_iload_n hx hb dX2_merge_42 rfl (lv_at hl 2 rfl) ?_
      refine md_zld hx hb hK hP M c11 dX2_merge_43 ?_
      refine xb_rv (va_runV (As := [.int (bf u.toNatClampNeg)]) (rest := []) ⟨hx, hb, hml, hown, hts⟩ (cM_join l D M hdfa_34 hdfc_29 (a80 (b40 (mt_l T c4)) (b40 (mt_l T c11))) (lw := bf u.toNatClampNeg) (mt_01 T c11) (mt_01 T c4)) (cwV 1 hts (gM_V 67 yX2_join (.code yX2_join cX2_join 2 none) (by decide +kernel) mw_57) rfl rfl rfl (by decide +kernel) ⟨Nat.le_of_ble_eq_true rfl, Nat.le_of_ble_eq_true rfl⟩) (xb_pv hP hK hD rfl rfl (md_a0 M)) rfl rfl hl.1 rfl (lv_room (Nat.le_of_ble_eq_true rfl)) dX2_merge_44 ⟨Nat.le_of_ble_eq_true rfl, Nat.le_of_ble_eq_true rfl⟩) hD hS hA (fun ws6 H locs hws6 hP hD hS => ?_)
      obtain ⟨fa_44, fr_44, ng_44, z_44, M, hng_44, hdfa_44, hz_44, hs_44⟩ := hws6
      refine lv_aload_n hx hb dX2_merge_47 rfl (lv_at hl 0 rfl) ?_
      refine lv_iload_n hx hb dX2_merge_48 rfl (lv_at hl 1 rfl) ?_
      refine xb_ri (va_runV (As := [.int t]) (rest := []) ⟨hx, hb, hml, hown, hts⟩ (cM_keep l D M T hdfa_44 (Nat.lt_of_le_of_lt hz_44 (a80 (b40 (mt_l T c4)) (b40 (mt_l T c11)))) hng_44 c4) (cwV 1 hts (gM_V 96 yX2_keep (.code yX2_keep cX2_keep 4 (some .int)) (by decide +kernel) mw_73) rfl rfl rfl (by decide +kernel) ⟨Nat.le_of_ble_eq_true rfl, Nat.le_of_ble_eq_true rfl⟩) (xb_pv hP hK hD rfl rfl (md_a0 M)) rfl rfl hl.1 rfl (lv_room (Nat.le_of_ble_eq_true rfl)) dX2_merge_49 ⟨Nat.le_of_ble_eq_true rfl, Nat.le_of_ble_eq_true rfl⟩) hD hS hA (fun r49 ws7 H locs hws7 hP hD hS => ?_)
      exact xb_ir hx hb hr hlocks hP hK hD hS dX2_merge_52 (fin_kT hws7 (merge_eq ⟨c4, c11⟩ (by rw [hs_44, mt_s T c4, mt_s T c11])))
    · have c11 := bz_0 hr8 c11
      refine lv_iconst (v := (-1)) hx hb dX2_merge_14 (by decide) ?_
      exact xb_ir hx hb hr hlocks hP hK hD hS dX2_merge_15 (fin_no M T (by rw [sp_merge, if_neg (fun q => c11 q.2)]))
set_option maxHeartbeats 4000000 in
set_option maxRecDepth 100000 in
theorem cM_enter (l : Launch) (D : va_G) {tys : xT} {ws : va_W} {sz : Nat} {w0 : va_W} {ad : Nat → Nat} {cB : Nat → ClassId} {rf : Nat → Int64} {tf bf fa fb fc fr : Nat → Int32} {ng : Int32} (M : md w0 ws tys ad cB rf tf bf fa fb fc fr ng) {tv : Nat → Int} (T : mt tf bf tv) (t r : Int32) (v : Int64) : xM l yX2_enter (.code yX2_enter cX2_enter 5 (some .int) :: mdT) ({ frames := 2, cells := 0, slots := 0, locals := 46 }) D tys ws sz [.ref (ad 0), .int t, .int r, .long v] (xQi D tys (fun a w => mdS w0 w tys ad cB (sp_enter (rf, tv) t r v).2 ∧ a = (sp_enter (rf, tv) t r v).1)) 0 0 := by
  refine xb_m (cc := cX2_enter) (maxL := 5) (ret := (some .int)) (by decide) rfl (Nat.le_of_ble_eq_true rfl) ?_
  intro p e s m below meth c A ls hx hb hr hml hown hts hlocks hnm hA hP hK hD hS hl
  have hl : lv_has ls 5 [(0, .ref (ad 0)), (1, .int t), (2, .int r), (3, .long v)] := hl
  have hown : s.vm.findClass RX2 = some m.cls := hown
  refine lv_iload_n hx hb dX2_enter_0 rfl (lv_at hl 1 rfl) ?_
  refine xb_ri (va_runS (As := [.int t]) (rest := []) ⟨hx, hb, hml, hown, hts⟩ (cM_isT l D t) (va_cwS 1 hts (gM_S 89 yX2_isTally (.code yX2_isTally cX2_isTally 1 (some .boolean)) (by decide +kernel) mw_71) rfl rfl rfl (by decide +kernel) ⟨Nat.le_of_ble_eq_true rfl, Nat.le_of_ble_eq_true rfl⟩) (xb_ps rfl hP hK hD) rfl rfl hl.1 rfl (lv_room (Nat.le_of_ble_eq_true rfl)) dX2_enter_1 ⟨Nat.le_of_ble_eq_true rfl, Nat.le_of_ble_eq_true rfl⟩) hD hS hA (fun r1 ws1 H locs hws1 hP hD hS => ?_)
  obtain ⟨hr1, rfl⟩ := hws1
  refine lv_if_eq (tgt := 14) hx hb dX2_enter_4 (by decide) (fun c4 => ?_) (fun c4 => ?_)
  · have c4 := bz_0 hr1 c4
    refine lv_iconst (v := (-1)) hx hb dX2_enter_14 (by decide) ?_
    exact xb_ir hx hb hr hlocks hP hK hD hS dX2_enter_15 (fin_no M T (by rw [sp_enter, if_neg (fun q => c4 q.1)]))
  · have c4 := bz_1 hr1 c4
    refine lv_iload_n hx hb dX2_enter_7 rfl (lv_at hl 2 rfl) ?_
    refine xb_ri (va_runS (As := [.int r]) (rest := []) ⟨hx, hb, hml, hown, hts⟩ (cM_isR l D r) (va_cwS 1 hts (gM_S 33 yX2_isRegister (.code yX2_isRegister cX2_isRegister 1 (some .boolean)) (by decide +kernel) mw_52) rfl rfl rfl (by decide +kernel) ⟨Nat.le_of_ble_eq_true rfl, Nat.le_of_ble_eq_true rfl⟩) (xb_ps rfl hP hK hD) rfl rfl hl.1 rfl (lv_room (Nat.le_of_ble_eq_true rfl)) dX2_enter_8 ⟨Nat.le_of_ble_eq_true rfl, Nat.le_of_ble_eq_true rfl⟩) hD hS hA (fun r8 ws2 H locs hws2 hP hD hS => ?_)
    obtain ⟨hr8, rfl⟩ := hws2
    refine lv_if_ne (tgt := 16) hx hb dX2_enter_11 (by decide) (fun c11 => ?_) (fun c11 => ?_)
    · have c11 := bz_1 hr8 c11
      refine lv_aload_n hx hb dX2_enter_16 rfl (lv_at hl 0 rfl) ?_
      refine va_get (D := D) (ci := ciM) (v := .ref (ad 1)) (C := RX2) (T := TX2) (N := 8) hx hb hts inM hown hK hP 10 (md_a0 M) rfl 0 (by decide) (hts _ (inT mw_3)) (fun _ h9 => h9) rfl dX2_enter_17 ?_
      refine lv_iload_n hx hb dX2_enter_20 rfl (lv_at hl 2 rfl) ?_
      refine md_lld hx hb hK hP M c11 dX2_enter_21 ?_
      refine lv_aload_n hx hb dX2_enter_22 rfl (lv_at hl 0 rfl) ?_
      refine va_get (D := D) (ci := ciM) (v := .ref (ad 4)) (C := RX2) (T := TX2) (N := 8) hx hb hts inM hown hK hP 10 (md_a0 M) rfl 3 (by decide) (hts _ (inT mw_7)) (fun _ h9 => h9) rfl dX2_enter_23 ?_
      refine xb_rv (va_runS (As := [.long (rf r.toNatClampNeg), .ref (ad 4)]) (rest := []) ⟨hx, hb, hml, hown, hts⟩ (cM_write l D (md_a4 M) (md_t3 M) (rf r.toNatClampNeg)) (va_cwS 2 hts (gM_S 63 yX2_write (.code yX2_write cX2_write 7 none) (by decide +kernel) mw_56) rfl rfl rfl (by decide +kernel) ⟨Nat.le_of_ble_eq_true rfl, Nat.le_of_ble_eq_true rfl⟩) (xb_ps rfl hP hK hD) rfl rfl hl.1 rfl (lv_room (Nat.le_of_ble_eq_true rfl)) dX2_enter_26 ⟨Nat.le_of_ble_eq_true rfl, Nat.le_of_ble_eq_true rfl⟩) hD hS hA (fun ws3 H locs hws3 hP hD hS => ?_)
      obtain ⟨fa_26, hws3, hdfa_26⟩ := hws3
      have M := md_sfa M hws3
      have hdfa_26 : dg fa_26 ((rf r.toNatClampNeg).toInt.natAbs) := hdfa_26
      refine lv_lload_n hx hb dX2_enter_29 rfl (lv_at hl 3 rfl) ?_
      refine lv_aload_n hx hb dX2_enter_30 rfl (lv_at hl 0 rfl) ?_
      refine va_get (D := D) (ci := ciM) (v := .ref (ad 5)) (C := RX2) (T := TX2) (N := 8) hx hb hts inM hown hK hP 10 (md_a0 M) rfl 4 (by decide) (hts _ (inT mw_29)) (fun _ h9 => h9) rfl dX2_enter_31 ?_
      refine xb_rv (va_runS (As := [.long v, .ref (ad 5)]) (rest := []) ⟨hx, hb, hml, hown, hts⟩ (cM_write l D (md_a5 M) (md_t4 M) v) (va_cwS 2 hts (gM_S 63 yX2_write (.code yX2_write cX2_write 7 none) (by decide +kernel) mw_56) rfl rfl rfl (by decide +kernel) ⟨Nat.le_of_ble_eq_true rfl, Nat.le_of_ble_eq_true rfl⟩) (xb_ps rfl hP hK hD) rfl rfl hl.1 rfl (lv_room (Nat.le_of_ble_eq_true rfl)) dX2_enter_34 ⟨Nat.le_of_ble_eq_true rfl, Nat.le_of_ble_eq_true rfl⟩) hD hS hA (fun ws4 H locs hws4 hP hD hS => ?_)
      obtain ⟨fb_34, hws4, hdfb_34⟩ := hws4
      have M := md_sfb M hws4
      have hdfb_34 : dg fb_34 (v.toInt.natAbs) := hdfb_34
      refine lv_aload_n hx hb dX2_enter_37 rfl (lv_at hl 0 rfl) ?_
      refine xb_rv (va_runV (As := []) (rest := []) ⟨hx, hb, hml, hown, hts⟩ (cM_mul l D M hdfa_26 hdfb_34 (abs40 _) (abs40 _)) (cwV 0 hts (gM_V 79 yX2_multiply (.code yX2_multiply cX2_multiply 5 none) (by decide +kernel) mw_65) rfl rfl rfl (by decide +kernel) ⟨Nat.le_of_ble_eq_true rfl, Nat.le_of_ble_eq_true rfl⟩) (xb_pv hP hK hD rfl rfl (md_a0 M)) rfl rfl hl.1 rfl (lv_room (Nat.le_of_ble_eq_true rfl)) dX2_enter_38 ⟨Nat.le_of_ble_eq_true rfl, Nat.le_of_ble_eq_true rfl⟩) hD hS hA (fun ws5 H locs hws5 hP hD hS => ?_)
      obtain ⟨fa_38, fc_38, M, hdfa_38⟩ := hws5
      refine lv_aload_n hx hb dX2_enter_41 rfl (lv_at hl 0 rfl) ?_
      refine va_get (D := D) (ci := ciM) (v := .ref (ad 4)) (C := RX2) (T := TX2) (N := 8) hx hb hts inM hown hK hP 10 (md_a0 M) rfl 3 (by decide) (hts _ (inT mw_7)) (fun _ h9 => h9) rfl dX2_enter_42 ?_
      refine lv_aload_n hx hb dX2_enter_45 rfl (lv_at hl 0 rfl) ?_
      refine va_get (D := D) (ci := ciM) (v := .ref (ad 6)) (C := RX2) (T := TX2) (N := 8) hx hb hts inM hown hK hP 10 (md_a0 M) rfl 5 (by decide) (hts _ (inT mw_11)) (fun _ h9 => h9) rfl dX2_enter_46 ?_
      refine xb_rv (va_runS (As := [.ref (ad 4), .ref (ad 6)]) (rest := []) ⟨hx, hb, hml, hown, hts⟩ (cM_copy l D (md_a6 M) (md_t5 M) (md_a4 M) (md_t3 M) (by decide)) (va_cwS 2 hts (gM_S 43 yX2_copy (.code yX2_copy cX2_copy 3 none) (by decide +kernel) mw_61) rfl rfl rfl (by decide +kernel) ⟨Nat.le_of_ble_eq_true rfl, Nat.le_of_ble_eq_true rfl⟩) (xb_ps rfl hP hK hD) rfl rfl hl.1 rfl (lv_room (Nat.le_of_ble_eq_true rfl)) dX2_enter_49 ⟨Nat.le_of_ble_eq_true rfl, Nat.le_of_ble_eq_true rfl⟩) hD hS hA (fun ws6 H locs hws6 hP hD hS => ?_)
      obtain ⟨fc_49, hws6, hdfc_49⟩ := hws6
      have M := md_sfc M hws6
      have hdfc_49 : dg fc_49 (((rf r.toNatClampNeg).toInt.natAbs) * v.toInt.natAbs) := fun j hj => (hdfc_49 j hj).trans (hdfa_38 j hj)
      refine lv_aload_n hx hb dX2_enter_52 rfl (lv_at hl 0 rfl) ?_
      refine lv_iload_n hx hb dX2_enter_53 rfl (lv_at hl 1 rfl) ?_
      refine xb_rv (va_runV (As := [.int t]) (rest := []) ⟨hx, hb, hml, hown, hts⟩ (cM_read l D M T c4) (cwV 1 hts (gM_V 92 yX2_read (.code yX2_read cX2_read 3 none) (by decide +kernel) mw_72) rfl rfl rfl (by decide +kernel) ⟨Nat.le_of_ble_eq_true rfl, Nat.le_of_ble_eq_true rfl⟩) (xb_pv hP hK hD rfl rfl (md_a0 M)) rfl rfl hl.1 rfl (lv_room (Nat.le_of_ble_eq_true rfl)) dX2_enter_54 ⟨Nat.le_of_ble_eq_true rfl, Nat.le_of_ble_eq_true rfl⟩) hD hS hA (fun ws7 H locs hws7 hP hD hS => ?_)
      obtain ⟨fa_54, M, hdfa_54⟩ := hws7
      refine lv_aload_n hx hb dX2_enter_57 rfl (lv_at hl 0 rfl) ?_
      refine lv_aload_n hx hb dX2_enter_58 rfl (lv_at hl 0 rfl) ?_
      refine va_get (D := D) (ci := ciM) (v := .ref (ad 1)) (C := RX2) (T := TX2) (N := 8) hx hb hts inM hown hK hP 10 (md_a0 M) rfl 0 (by decide) (hts _ (inT mw_3)) (fun _ h9 => h9) rfl dX2_enter_59 ?_
      refine lv_iload_n hx hb dX2_enter_62 rfl (lv_at hl 2 rfl) ?_
      refine md_lld hx hb hK hP M c11 dX2_enter_63 ?_
      refine lv_lconst (v := 0) hx hb dX2_enter_64 (by decide) ?_
      refine W.lcmp hx hb dX2_enter_65 ?_
      refine lv_if_ge (tgt := 73) hx hb dX2_enter_66 (by decide) (fun c66 => ?_) (fun c66 => ?_)
      · rw [lg_cmp_ge] at c66
        refine lv_iconst (v := 0) hx hb dX2_enter_73 (by decide) ?_
        refine lv_lload_n hx hb dX2_enter_74 rfl (lv_at hl 3 rfl) ?_
        refine lv_lconst (v := 0) hx hb dX2_enter_75 (by decide) ?_
        refine W.lcmp hx hb dX2_enter_76 ?_
        refine lv_if_ge (tgt := 84) hx hb dX2_enter_77 (by decide) (fun c77 => ?_) (fun c77 => ?_)
        · rw [lg_cmp_ge] at c77
          refine lv_iconst (v := 0) hx hb dX2_enter_84 (by decide) ?_
          refine lv_icmp_eq (tgt := 92) hx hb dX2_enter_85 (by decide) (fun _ => ?_) (fun q => absurd rfl q)
          refine lv_iconst (v := 0) hx hb dX2_enter_92 (by decide) ?_
          refine xb_rv (va_runV (As := [.int 0]) (rest := []) ⟨hx, hb, hml, hown, hts⟩ (cM_join l D M hdfa_54 hdfc_49 (e80 (mt_l T c4) (abs_m (rf r.toNatClampNeg) v)) (lw := 0) (Or.inl rfl) (mt_01 T c4)) (cwV 1 hts (gM_V 67 yX2_join (.code yX2_join cX2_join 2 none) (by decide +kernel) mw_57) rfl rfl rfl (by decide +kernel) ⟨Nat.le_of_ble_eq_true rfl, Nat.le_of_ble_eq_true rfl⟩) (xb_pv hP hK hD rfl rfl (md_a0 M)) rfl rfl hl.1 rfl (lv_room (Nat.le_of_ble_eq_true rfl)) dX2_enter_93 ⟨Nat.le_of_ble_eq_true rfl, Nat.le_of_ble_eq_true rfl⟩) hD hS hA (fun ws8 H locs hws8 hP hD hS => ?_)
          obtain ⟨fa_93, fr_93, ng_93, z_93, M, hng_93, hdfa_93, hz_93, hs_93⟩ := hws8
          refine lv_aload_n hx hb dX2_enter_96 rfl (lv_at hl 0 rfl) ?_
          refine lv_iload_n hx hb dX2_enter_97 rfl (lv_at hl 1 rfl) ?_
          refine xb_ri (va_runV (As := [.int t]) (rest := []) ⟨hx, hb, hml, hown, hts⟩ (cM_keep l D M T hdfa_93 (Nat.lt_of_le_of_lt hz_93 (e80 (mt_l T c4) (abs_m (rf r.toNatClampNeg) v))) hng_93 c4) (cwV 1 hts (gM_V 96 yX2_keep (.code yX2_keep cX2_keep 4 (some .int)) (by decide +kernel) mw_73) rfl rfl rfl (by decide +kernel) ⟨Nat.le_of_ble_eq_true rfl, Nat.le_of_ble_eq_true rfl⟩) (xb_pv hP hK hD rfl rfl (md_a0 M)) rfl rfl hl.1 rfl (lv_room (Nat.le_of_ble_eq_true rfl)) dX2_enter_98 ⟨Nat.le_of_ble_eq_true rfl, Nat.le_of_ble_eq_true rfl⟩) hD hS hA (fun r98 ws9 H locs hws9 hP hD hS => ?_)
          exact xb_ir hx hb hr hlocks hP hK hD hS dX2_enter_101 (fin_kT hws9 (enter_eq ⟨c4, c11⟩ (by rw [hs_93, mt_s T c4, sv_mul (a := 0) (b := 0) (Or.inl rfl) (Or.inl rfl) (by decide), (svp c66).1, (svp c77).1])))
        · rw [lg_cmp_ge] at c77
          refine lv_iconst (v := 1) hx hb dX2_enter_80 (by decide) ?_
          refine lv_goto (tgt := 85) hx hb dX2_enter_81 (by decide) ?_
          refine lv_icmp_eq (tgt := 92) hx hb dX2_enter_85 (by decide) (fun q => absurd q (by decide)) (fun _ => ?_)
          refine lv_iconst (v := 1) hx hb dX2_enter_88 (by decide) ?_
          refine lv_goto (tgt := 93) hx hb dX2_enter_89 (by decide) ?_
          refine xb_rv (va_runV (As := [.int 1]) (rest := []) ⟨hx, hb, hml, hown, hts⟩ (cM_join l D M hdfa_54 hdfc_49 (e80 (mt_l T c4) (abs_m (rf r.toNatClampNeg) v)) (lw := 1) (Or.inr rfl) (mt_01 T c4)) (cwV 1 hts (gM_V 67 yX2_join (.code yX2_join cX2_join 2 none) (by decide +kernel) mw_57) rfl rfl rfl (by decide +kernel) ⟨Nat.le_of_ble_eq_true rfl, Nat.le_of_ble_eq_true rfl⟩) (xb_pv hP hK hD rfl rfl (md_a0 M)) rfl rfl hl.1 rfl (lv_room (Nat.le_of_ble_eq_true rfl)) dX2_enter_93 ⟨Nat.le_of_ble_eq_true rfl, Nat.le_of_ble_eq_true rfl⟩) hD hS hA (fun ws8 H locs hws8 hP hD hS => ?_)
          obtain ⟨fa_93, fr_93, ng_93, z_93, M, hng_93, hdfa_93, hz_93, hs_93⟩ := hws8
          refine lv_aload_n hx hb dX2_enter_96 rfl (lv_at hl 0 rfl) ?_
          refine lv_iload_n hx hb dX2_enter_97 rfl (lv_at hl 1 rfl) ?_
          refine xb_ri (va_runV (As := [.int t]) (rest := []) ⟨hx, hb, hml, hown, hts⟩ (cM_keep l D M T hdfa_93 (Nat.lt_of_le_of_lt hz_93 (e80 (mt_l T c4) (abs_m (rf r.toNatClampNeg) v))) hng_93 c4) (cwV 1 hts (gM_V 96 yX2_keep (.code yX2_keep cX2_keep 4 (some .int)) (by decide +kernel) mw_73) rfl rfl rfl (by decide +kernel) ⟨Nat.le_of_ble_eq_true rfl, Nat.le_of_ble_eq_true rfl⟩) (xb_pv hP hK hD rfl rfl (md_a0 M)) rfl rfl hl.1 rfl (lv_room (Nat.le_of_ble_eq_true rfl)) dX2_enter_98 ⟨Nat.le_of_ble_eq_true rfl, Nat.le_of_ble_eq_true rfl⟩) hD hS hA (fun r98 ws9 H locs hws9 hP hD hS => ?_)
          exact xb_ir hx hb hr hlocks hP hK hD hS dX2_enter_101 (fin_kT hws9 (enter_eq ⟨c4, c11⟩ (by rw [hs_93, mt_s T c4, sv_mul (a := 0) (b := 1) (Or.inl rfl) (Or.inr rfl) (by decide), (svp c66).1, (svn c77).1])))
      · rw [lg_cmp_ge] at c66
        refine lv_iconst (v := 1) hx hb dX2_enter_69 (by decide) ?_
        refine lv_goto (tgt := 74) hx hb dX2_enter_70 (by decide) ?_
        refine lv_lload_n hx hb dX2_enter_74 rfl (lv_at hl 3 rfl) ?_
        refine lv_lconst (v := 0) hx hb dX2_enter_75 (by decide) ?_
        refine W.lcmp hx hb dX2_enter_76 ?_
        refine lv_if_ge (tgt := 84) hx hb dX2_enter_77 (by decide) (fun c77 => ?_) (fun c77 => ?_)
        · rw [lg_cmp_ge] at c77
          refine lv_iconst (v := 0) hx hb dX2_enter_84 (by decide) ?_
          refine lv_icmp_eq (tgt := 92) hx hb dX2_enter_85 (by decide) (fun q => absurd q (by decide)) (fun _ => ?_)
          refine lv_iconst (v := 1) hx hb dX2_enter_88 (by decide) ?_
          refine lv_goto (tgt := 93) hx hb dX2_enter_89 (by decide) ?_
          refine xb_rv (va_runV (As := [.int 1]) (rest := []) ⟨hx, hb, hml, hown, hts⟩ (cM_join l D M hdfa_54 hdfc_49 (e80 (mt_l T c4) (abs_m (rf r.toNatClampNeg) v)) (lw := 1) (Or.inr rfl) (mt_01 T c4)) (cwV 1 hts (gM_V 67 yX2_join (.code yX2_join cX2_join 2 none) (by decide +kernel) mw_57) rfl rfl rfl (by decide +kernel) ⟨Nat.le_of_ble_eq_true rfl, Nat.le_of_ble_eq_true rfl⟩) (xb_pv hP hK hD rfl rfl (md_a0 M)) rfl rfl hl.1 rfl (lv_room (Nat.le_of_ble_eq_true rfl)) dX2_enter_93 ⟨Nat.le_of_ble_eq_true rfl, Nat.le_of_ble_eq_true rfl⟩) hD hS hA (fun ws8 H locs hws8 hP hD hS => ?_)
          obtain ⟨fa_93, fr_93, ng_93, z_93, M, hng_93, hdfa_93, hz_93, hs_93⟩ := hws8
          refine lv_aload_n hx hb dX2_enter_96 rfl (lv_at hl 0 rfl) ?_
          refine lv_iload_n hx hb dX2_enter_97 rfl (lv_at hl 1 rfl) ?_
          refine xb_ri (va_runV (As := [.int t]) (rest := []) ⟨hx, hb, hml, hown, hts⟩ (cM_keep l D M T hdfa_93 (Nat.lt_of_le_of_lt hz_93 (e80 (mt_l T c4) (abs_m (rf r.toNatClampNeg) v))) hng_93 c4) (cwV 1 hts (gM_V 96 yX2_keep (.code yX2_keep cX2_keep 4 (some .int)) (by decide +kernel) mw_73) rfl rfl rfl (by decide +kernel) ⟨Nat.le_of_ble_eq_true rfl, Nat.le_of_ble_eq_true rfl⟩) (xb_pv hP hK hD rfl rfl (md_a0 M)) rfl rfl hl.1 rfl (lv_room (Nat.le_of_ble_eq_true rfl)) dX2_enter_98 ⟨Nat.le_of_ble_eq_true rfl, Nat.le_of_ble_eq_true rfl⟩) hD hS hA (fun r98 ws9 H locs hws9 hP hD hS => ?_)
          exact xb_ir hx hb hr hlocks hP hK hD hS dX2_enter_101 (fin_kT hws9 (enter_eq ⟨c4, c11⟩ (by rw [hs_93, mt_s T c4, sv_mul (a := 1) (b := 0) (Or.inr rfl) (Or.inl rfl) (by decide), (svn c66).1, (svp c77).1])))
        · rw [lg_cmp_ge] at c77
          refine lv_iconst (v := 1) hx hb dX2_enter_80 (by decide) ?_
          refine lv_goto (tgt := 85) hx hb dX2_enter_81 (by decide) ?_
          refine lv_icmp_eq (tgt := 92) hx hb dX2_enter_85 (by decide) (fun _ => ?_) (fun q => absurd rfl q)
          refine lv_iconst (v := 0) hx hb dX2_enter_92 (by decide) ?_
          refine xb_rv (va_runV (As := [.int 0]) (rest := []) ⟨hx, hb, hml, hown, hts⟩ (cM_join l D M hdfa_54 hdfc_49 (e80 (mt_l T c4) (abs_m (rf r.toNatClampNeg) v)) (lw := 0) (Or.inl rfl) (mt_01 T c4)) (cwV 1 hts (gM_V 67 yX2_join (.code yX2_join cX2_join 2 none) (by decide +kernel) mw_57) rfl rfl rfl (by decide +kernel) ⟨Nat.le_of_ble_eq_true rfl, Nat.le_of_ble_eq_true rfl⟩) (xb_pv hP hK hD rfl rfl (md_a0 M)) rfl rfl hl.1 rfl (lv_room (Nat.le_of_ble_eq_true rfl)) dX2_enter_93 ⟨Nat.le_of_ble_eq_true rfl, Nat.le_of_ble_eq_true rfl⟩) hD hS hA (fun ws8 H locs hws8 hP hD hS => ?_)
          obtain ⟨fa_93, fr_93, ng_93, z_93, M, hng_93, hdfa_93, hz_93, hs_93⟩ := hws8
          refine lv_aload_n hx hb dX2_enter_96 rfl (lv_at hl 0 rfl) ?_
          refine lv_iload_n hx hb dX2_enter_97 rfl (lv_at hl 1 rfl) ?_
          refine xb_ri (va_runV (As := [.int t]) (rest := []) ⟨hx, hb, hml, hown, hts⟩ (cM_keep l D M T hdfa_93 (Nat.lt_of_le_of_lt hz_93 (e80 (mt_l T c4) (abs_m (rf r.toNatClampNeg) v))) hng_93 c4) (cwV 1 hts (gM_V 96 yX2_keep (.code yX2_keep cX2_keep 4 (some .int)) (by decide +kernel) mw_73) rfl rfl rfl (by decide +kernel) ⟨Nat.le_of_ble_eq_true rfl, Nat.le_of_ble_eq_true rfl⟩) (xb_pv hP hK hD rfl rfl (md_a0 M)) rfl rfl hl.1 rfl (lv_room (Nat.le_of_ble_eq_true rfl)) dX2_enter_98 ⟨Nat.le_of_ble_eq_true rfl, Nat.le_of_ble_eq_true rfl⟩) hD hS hA (fun r98 ws9 H locs hws9 hP hD hS => ?_)
          exact xb_ir hx hb hr hlocks hP hK hD hS dX2_enter_101 (fin_kT hws9 (enter_eq ⟨c4, c11⟩ (by rw [hs_93, mt_s T c4, sv_mul (a := 1) (b := 1) (Or.inr rfl) (Or.inr rfl) (by decide), (svn c66).1, (svn c77).1])))
    · have c11 := bz_0 hr8 c11
      refine lv_iconst (v := (-1)) hx hb dX2_enter_14 (by decide) ?_
      exact xb_ir hx hb hr hlocks hP hK hD hS dX2_enter_15 (fin_no M T (by rw [sp_enter, if_neg (fun q => c11 q.2)]))
set_option maxHeartbeats 4000000 in
set_option maxRecDepth 100000 in
theorem cM_cmp (l : Launch) (D : va_G) {tys : xT} {ws : va_W} {sz : Nat} {w0 : va_W} {ad : Nat → Nat} {cB : Nat → ClassId} {rf : Nat → Int64} {tf bf fa fb fc fr : Nat → Int32} {ng : Int32} (M : md w0 ws tys ad cB rf tf bf fa fb fc fr ng) {tv : Nat → Int} (T : mt tf bf tv) (t u : Int32) : xM l yX2_compare (.code yX2_compare cX2_compare 4 (some .int) :: mdT) ({ frames := 1, cells := 0, slots := 0, locals := 23 }) D tys ws sz [.ref (ad 0), .int t, .int u] (xQi D tys (fun a w => mdS w0 w tys ad cB (rf, tv) ∧ a = sp_cmp (rf, tv) t u)) 0 0 := by
  refine xb_m (cc := cX2_compare) (maxL := 4) (ret := (some .int)) (by decide) rfl (Nat.le_of_ble_eq_true rfl) ?_
  intro p e s m below meth c A ls hx hb hr hml hown hts hlocks hnm hA hP hK hD hS hl
  have hl : lv_has ls 4 [(0, .ref (ad 0)), (1, .int t), (2, .int u)] := hl
  have hown : s.vm.findClass RX2 = some m.cls := hown
  refine lv_iload_n hx hb dX2_compare_0 rfl (lv_at hl 1 rfl) ?_
  refine xb_ri (va_runS (As := [.int t]) (rest := []) ⟨hx, hb, hml, hown, hts⟩ (cM_isT l D t) (va_cwS 1 hts (gM_S 89 yX2_isTally (.code yX2_isTally cX2_isTally 1 (some .boolean)) (by decide +kernel) mw_71) rfl rfl rfl (by decide +kernel) ⟨Nat.le_of_ble_eq_true rfl, Nat.le_of_ble_eq_true rfl⟩) (xb_ps rfl hP hK hD) rfl rfl hl.1 rfl (lv_room (Nat.le_of_ble_eq_true rfl)) dX2_compare_1 ⟨Nat.le_of_ble_eq_true rfl, Nat.le_of_ble_eq_true rfl⟩) hD hS hA (fun r1 ws1 H locs hws1 hP hD hS => ?_)
  obtain ⟨hr1, rfl⟩ := hws1
  refine lv_if_eq (tgt := 14) hx hb dX2_compare_4 (by decide) (fun c4 => ?_) (fun c4 => ?_)
  · have c4 := bz_0 hr1 c4
    refine lv_bipush (v := (-2)) hx hb dX2_compare_14 (by decide) ?_
    exact xb_ir hx hb hr hlocks hP hK hD hS dX2_compare_16 (⟨⟨tf, bf, _, _, _, _, _, M, T⟩, by rw [sp_cmp, if_neg (fun q => c4 q.1)]⟩)
  · have c4 := bz_1 hr1 c4
    refine lv_iload_n hx hb dX2_compare_7 rfl (lv_at hl 2 rfl) ?_
    refine xb_ri (va_runS (As := [.int u]) (rest := []) ⟨hx, hb, hml, hown, hts⟩ (cM_isT l D u) (va_cwS 1 hts (gM_S 89 yX2_isTally (.code yX2_isTally cX2_isTally 1 (some .boolean)) (by decide +kernel) mw_71) rfl rfl rfl (by decide +kernel) ⟨Nat.le_of_ble_eq_true rfl, Nat.le_of_ble_eq_true rfl⟩) (xb_ps rfl hP hK hD) rfl rfl hl.1 rfl (lv_room (Nat.le_of_ble_eq_true rfl)) dX2_compare_8 ⟨Nat.le_of_ble_eq_true rfl, Nat.le_of_ble_eq_true rfl⟩) hD hS hA (fun r8 ws2 H locs hws2 hP hD hS => ?_)
    obtain ⟨hr8, rfl⟩ := hws2
    refine lv_if_ne (tgt := 17) hx hb dX2_compare_11 (by decide) (fun c11 => ?_) (fun c11 => ?_)
    · have c11 := bz_1 hr8 c11
      refine lv_aload_n hx hb dX2_compare_17 rfl (lv_at hl 0 rfl) ?_
      refine lv_iload_n hx hb dX2_compare_18 rfl (lv_at hl 2 rfl) ?_
      refine xb_rv (va_runV (As := [.int u]) (rest := []) ⟨hx, hb, hml, hown, hts⟩ (cM_read l D M T c11) (cwV 1 hts (gM_V 92 yX2_read (.code yX2_read cX2_read 3 none) (by decide +kernel) mw_72) rfl rfl rfl (by decide +kernel) ⟨Nat.le_of_ble_eq_true rfl, Nat.le_of_ble_eq_true rfl⟩) (xb_pv hP hK hD rfl rfl (md_a0 M)) rfl rfl hl.1 rfl (lv_room (Nat.le_of_ble_eq_true rfl)) dX2_compare_19 ⟨Nat.le_of_ble_eq_true rfl, Nat.le_of_ble_eq_true rfl⟩) hD hS hA (fun ws3 H locs hws3 hP hD hS => ?_)
      obtain ⟨fa_19, M, hdfa_19⟩ := hws3
      refine lv_aload_n hx hb dX2_compare_22 rfl (lv_at hl 0 rfl) ?_
      refine va_get (D := D) (ci := ciM) (v := .ref (ad 4)) (C := RX2) (T := TX2) (N := 8) hx hb hts inM hown hK hP 10 (md_a0 M) rfl 3 (by decide) (hts _ (inT mw_7)) (fun _ h9 => h9) rfl dX2_compare_23 ?_
      refine lv_aload_n hx hb dX2_compare_26 rfl (lv_at hl 0 rfl) ?_
      refine va_get (D := D) (ci := ciM) (v := .ref (ad 6)) (C := RX2) (T := TX2) (N := 8) hx hb hts inM hown hK hP 10 (md_a0 M) rfl 5 (by decide) (hts _ (inT mw_11)) (fun _ h9 => h9) rfl dX2_compare_27 ?_
      refine xb_rv (va_runS (As := [.ref (ad 4), .ref (ad 6)]) (rest := []) ⟨hx, hb, hml, hown, hts⟩ (cM_copy l D (md_a6 M) (md_t5 M) (md_a4 M) (md_t3 M) (by decide)) (va_cwS 2 hts (gM_S 43 yX2_copy (.code yX2_copy cX2_copy 3 none) (by decide +kernel) mw_61) rfl rfl rfl (by decide +kernel) ⟨Nat.le_of_ble_eq_true rfl, Nat.le_of_ble_eq_true rfl⟩) (xb_ps rfl hP hK hD) rfl rfl hl.1 rfl (lv_room (Nat.le_of_ble_eq_true rfl)) dX2_compare_30 ⟨Nat.le_of_ble_eq_true rfl, Nat.le_of_ble_eq_true rfl⟩) hD hS hA (fun ws4 H locs hws4 hP hD hS => ?_)
      obtain ⟨fc_30, hws4, hdfc_30⟩ := hws4
      have M := md_sfc M hws4
      have hdfc_30 : dg fc_30 ((tv u.toNatClampNeg).natAbs) := fun j hj => (hdfc_30 j hj).trans (hdfa_19 j hj)
      refine lv_aload_n hx hb dX2_compare_33 rfl (lv_at hl 0 rfl) ?_
      refine lv_iload_n hx hb dX2_compare_34 rfl (lv_at hl 1 rfl) ?_
      refine xb_rv (va_runV (As := [.int t]) (rest := []) ⟨hx, hb, hml, hown, hts⟩ (cM_read l D M T c4) (cwV 1 hts (gM_V 92 yX2_read (.code yX2_read cX2_read 3 none) (by decide +kernel) mw_72) rfl rfl rfl (by decide +kernel) ⟨Nat.le_of_ble_eq_true rfl, Nat.le_of_ble_eq_true rfl⟩) (xb_pv hP hK hD rfl rfl (md_a0 M)) rfl rfl hl.1 rfl (lv_room (Nat.le_of_ble_eq_true rfl)) dX2_compare_35 ⟨Nat.le_of_ble_eq_true rfl, Nat.le_of_ble_eq_true rfl⟩) hD hS hA (fun ws5 H locs hws5 hP hD hS => ?_)
      obtain ⟨fa_35, M, hdfa_35⟩ := hws5
      refine lv_aload_n hx hb dX2_compare_38 rfl (lv_at hl 0 rfl) ?_
      refine va_get (D := D) (ci := ciM) (v := .ref (ad 4)) (C := RX2) (T := TX2) (N := 8) hx hb hts inM hown hK hP 10 (md_a0 M) rfl 3 (by decide) (hts _ (inT mw_7)) (fun _ h9 => h9) rfl dX2_compare_39 ?_
      refine lv_aload_n hx hb dX2_compare_42 rfl (lv_at hl 0 rfl) ?_
      refine va_get (D := D) (ci := ciM) (v := .ref (ad 6)) (C := RX2) (T := TX2) (N := 8) hx hb hts inM hown hK hP 10 (md_a0 M) rfl 5 (by decide) (hts _ (inT mw_11)) (fun _ h9 => h9) rfl dX2_compare_43 ?_
      refine xb_ri (va_runS (As := [.ref (ad 4), .ref (ad 6)]) (rest := []) ⟨hx, hb, hml, hown, hts⟩ (cM_cmps l D (md_a4 M) (md_t3 M) (md_a6 M) (md_t5 M) hdfa_35 hdfc_30 (b80 (mt_l T c4)) (b80 (mt_l T c11))) (va_cwS 2 hts (gM_S 47 yX2_compareSizes (.code yX2_compareSizes cX2_compareSizes 4 (some .int)) (by decide +kernel) mw_59) rfl rfl rfl (by decide +kernel) ⟨Nat.le_of_ble_eq_true rfl, Nat.le_of_ble_eq_true rfl⟩) (xb_ps rfl hP hK hD) rfl rfl hl.1 rfl (lv_room (Nat.le_of_ble_eq_true rfl)) dX2_compare_46 ⟨Nat.le_of_ble_eq_true rfl, Nat.le_of_ble_eq_true rfl⟩) hD hS hA (fun r46 ws6 H locs hws6 hP hD hS => ?_)
      obtain ⟨hr46, rfl⟩ := hws6
      refine lv_istore_n (lv' := [(3, .int r46), (0, .ref (ad 0)), (1, .int t), (2, .int u)]) hx hb dX2_compare_49 rfl hl (by decide) rfl (fun ls hl => ?_)
      refine lv_aload_n hx hb dX2_compare_50 rfl (lv_at hl 1 rfl) ?_
      refine va_get (D := D) (ci := ciM) (v := .ref (ad 3)) (C := RX2) (T := TX2) (N := 8) hx hb hts inM hown hK hP 10 (md_a0 M) rfl 2 (by decide) (hts _ (inT mw_49)) (fun _ h9 => h9) rfl dX2_compare_51 ?_
      refine lv_iload_n hx hb dX2_compare_54 rfl (lv_at hl 2 rfl) ?_
      refine md_zld hx hb hK hP M c4 dX2_compare_55 ?_
      refine lv_aload_n hx hb dX2_compare_56 rfl (lv_at hl 1 rfl) ?_
      refine va_get (D := D) (ci := ciM) (v := .ref (ad 3)) (C := RX2) (T := TX2) (N := 8) hx hb hts inM hown hK hP 10 (md_a0 M) rfl 2 (by decide) (hts _ (inT mw_49)) (fun _ h9 => h9) rfl dX2_compare_57 ?_
      refine lv_iload_n hx hb dX2_compare_60 rfl (lv_at hl 3 rfl) ?_
      refine md_zld hx hb hK hP M c11 dX2_compare_61 ?_
      refine lv_icmp_eq (tgt := 82) hx hb dX2_compare_62 (by decide) (fun c62 => ?_) (fun c62 => ?_)
      · refine lv_aload_n hx hb dX2_compare_82 rfl (lv_at hl 1 rfl) ?_
        refine va_get (D := D) (ci := ciM) (v := .ref (ad 3)) (C := RX2) (T := TX2) (N := 8) hx hb hts inM hown hK hP 10 (md_a0 M) rfl 2 (by decide) (hts _ (inT mw_49)) (fun _ h9 => h9) rfl dX2_compare_83 ?_
        refine lv_iload_n hx hb dX2_compare_86 rfl (lv_at hl 2 rfl) ?_
        refine md_zld hx hb hK hP M c4 dX2_compare_87 ?_
        refine lv_if_eq (tgt := 96) hx hb dX2_compare_88 (by decide) (fun c88 => ?_) (fun c88 => ?_)
        · refine lv_iload_n hx hb dX2_compare_96 rfl (lv_at hl 0 rfl) ?_
          exact xb_ir hx hb hr hlocks hP hK hD hS dX2_compare_97 (⟨⟨tf, bf, _, _, _, _, _, M, T⟩, by rw [sp_cmp, if_pos ⟨c4, c11⟩, hr46]; exact ((cmp_2 (mt_b T c4) (mt_b T c11) c62).1 c88).symm⟩)
        · refine lv_iload_n hx hb dX2_compare_91 rfl (lv_at hl 0 rfl) ?_
          refine lv_ineg hx hb dX2_compare_92 ?_
          refine lv_goto (tgt := 97) hx hb dX2_compare_93 (by decide) ?_
          exact xb_ir hx hb hr hlocks hP hK hD hS dX2_compare_97 (⟨⟨tf, bf, _, _, _, _, _, M, T⟩, by rw [sp_cmp, if_pos ⟨c4, c11⟩, hr46]; exact ((cmp_2 (mt_b T c4) (mt_b T c11) c62).2 c88).symm⟩)
      · refine lv_aload_n hx hb dX2_compare_65 rfl (lv_at hl 1 rfl) ?_
        refine va_get (D := D) (ci := ciM) (v := .ref (ad 3)) (C := RX2) (T := TX2) (N := 8) hx hb hts inM hown hK hP 10 (md_a0 M) rfl 2 (by decide) (hts _ (inT mw_49)) (fun _ h9 => h9) rfl dX2_compare_66 ?_
        refine lv_iload_n hx hb dX2_compare_69 rfl (lv_at hl 2 rfl) ?_
        refine md_zld hx hb hK hP M c4 dX2_compare_70 ?_
        refine lv_if_eq (tgt := 78) hx hb dX2_compare_71 (by decide) (fun c71 => ?_) (fun c71 => ?_)
        · refine lv_iconst (v := 1) hx hb dX2_compare_78 (by decide) ?_
          refine lv_goto (tgt := 97) hx hb dX2_compare_79 (by decide) ?_
          exact xb_ir hx hb hr hlocks hP hK hD hS dX2_compare_97 (⟨⟨tf, bf, _, _, _, _, _, M, T⟩, by rw [sp_cmp, if_pos ⟨c4, c11⟩]; exact ((cmp_1 (mt_b T c4) (mt_b T c11) c62).1 c71).symm⟩)
        · refine lv_iconst (v := (-1)) hx hb dX2_compare_74 (by decide) ?_
          refine lv_goto (tgt := 97) hx hb dX2_compare_75 (by decide) ?_
          exact xb_ir hx hb hr hlocks hP hK hD hS dX2_compare_97 (⟨⟨tf, bf, _, _, _, _, _, M, T⟩, by rw [sp_cmp, if_pos ⟨c4, c11⟩]; exact ((cmp_1 (mt_b T c4) (mt_b T c11) c62).2 c71).symm⟩)
    · have c11 := bz_0 hr8 c11
      refine lv_bipush (v := (-2)) hx hb dX2_compare_14 (by decide) ?_
      exact xb_ir hx hb hr hlocks hP hK hD hS dX2_compare_16 (⟨⟨tf, bf, _, _, _, _, _, M, T⟩, by rw [sp_cmp, if_neg (fun q => c11 q.2)]⟩)
