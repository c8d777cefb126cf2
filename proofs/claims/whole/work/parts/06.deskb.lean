/-! the desk's arrays at work -/
section XD2
variable {p : Program} {l : Launch} {e : Env} {R : Room} {s : State} {m : MethodId} {args : Array Value} {below : List Frame} {meth : Method} {c : Code} {H : Heap} {locs : List Loc} {cells slots : Nat} {Q : State → Prop}
variable {cc : ByteArray} {pc : Nat} {ls : Array Slot} {rest : List Value} {D : va_G} {A : Nat → Prop} {H0 : Heap}
variable {w0 ws : va_W} {tys : xT} {ad : Nat → Nat} {cA : Nat → ClassId} {g : Nat → Option Nat} {rf : Nat → Int64} {tv : Nat → Int} {o : Int}
theorem xd_lld (hx : p.tables.exec = Jvm.exec) (hb : c.code = cc) (hK : va_K D vwCl tys s) (hP : va_P D vwCl ws H) (X : xd w0 ws tys ad cA g rf tv o) {r : Int32} (h : ¬ r < 0 ∧ r < 8) (hdg : decode cc pc = .ok (.laload, 1))
    (kk : W p l e R s m args below meth c H locs cells slots Q (F0 m (pc + 1) ls (.long (rf r.toNatClampNeg) :: rest))) : W p l e R s m args below meth c H locs cells slots Q (F0 m pc ls (.int r :: .ref (ad 1) :: rest)) :=
  va_lald hx hb hK hP 1 0 (xd_a1 X) (xd_t0 X) (in8 h) hdg kk
theorem xd_ald (hx : p.tables.exec = Jvm.exec) (hb : c.code = cc) (hK : va_K D vwCl tys s) (hP : va_P D vwCl ws H) (X : xd w0 ws tys ad cA g rf tv o) {t : Int32} (h : ¬ t < 0 ∧ t < 4) (hdg : decode cc pc = .ok (.aaload, 1))
    (kk : W p l e R s m args below meth c H locs cells slots Q (F0 m (pc + 1) ls (.ref (ad (3 + t.toNatClampNeg)) :: rest))) : W p l e R s m args below meth c H locs cells slots Q (F0 m pc ls (.int t :: .ref (ad 2) :: rest)) := by
  refine va_aldq hx hb hK hP 2 1 (xd_a2 X) (xd_t1 X) (in4 h) hdg ?_
  rw [xd_gj X (vin_lt (in4 h))]
  exact kk
theorem xd_lst (hx : p.tables.exec = Jvm.exec) (hb : c.code = cc) (hK : va_K D vwCl tys s) (hP : va_P D vwCl ws H) (hD : va_D A ws) (hS : va_S A H0 H locs) (X : xd w0 ws tys ad cA g rf tv o) {r : Int32} {v : Int64} (h : ¬ r < 0 ∧ r < 8) (hdg : decode cc pc = .ok (.lastore, 1))
    (kk : ∀ (ws1 : va_W) (H1 : Heap) (locs1 : List Loc), xd w0 ws1 tys ad cA g (vp_updL rf r.toNatClampNeg v) tv o → va_P D vwCl ws1 H1 → va_D A ws1 → va_S A H0 H1 locs1 → W p l e R s m args below meth c H1 locs1 cells slots Q (F0 m (pc + 1) ls rest)) : W p l e R s m args below meth c H locs cells slots Q (F0 m pc ls (.long v :: .int r :: .ref (ad 1) :: rest)) :=
  va_last hx hb hK hP hD hS 1 0 (xd_a1 X) (xd_t0 X) (in8 h) hdg (fun H1 locs1 hP1 hD1 hS1 => kk _ H1 locs1 (xd_setR X rfl) hP1 hD1 hS1)
end XD2
theorem j4 {t : Int32} (h : ¬ t < 0 ∧ t < 4) : t.toNatClampNeg < 4 := vin_lt (in4 h)
theorem zr_l (a : Int64) : zR a.toInt := by
  have h1 := un_lo a
  have h2 := un_hi a
  constructor <;> omega
theorem zr_n (a : Int64) : zR (-a.toInt) := by
  have h1 := un_lo a
  have h2 := un_hi a
  constructor <;> omega
theorem zr_a (a b : Int64) : zR (a.toInt + b.toInt) := by
  have h1 := un_lo a
  have h2 := un_hi a
  have h3 := un_lo b
  have h4 := un_hi b
  constructor <;> omega
theorem zr_s (a b : Int64) : zR (-a.toInt + b.toInt) := by
  have h1 := un_lo a
  have h2 := un_hi a
  have h3 := un_lo b
  have h4 := un_hi b
  constructor <;> omega
theorem mul_b (a b : Int64) : -85070591730234615865843651857942052864 ≤ a.toInt * b.toInt ∧ a.toInt * b.toInt ≤ 85070591730234615865843651857942052864 := by
  have h1 := un_lo a
  have h2 := un_hi a
  have h3 := un_lo b
  have h4 := un_hi b
  by_cases q : 0 ≤ b.toInt
  · have := mul_rng (a := 9223372036854775808) (b := 9223372036854775808) (c := 9223372036854775808) (p := a.toInt) (by omega) (by omega) q (by omega) (by decide) (by decide)
    omega
  · have := mul_rng (a := 9223372036854775808) (b := 9223372036854775808) (c := 9223372036854775808) (p := a.toInt) (t := -b.toInt) (by omega) (by omega) (by omega) (by omega) (by decide) (by decide)
    rw [Int.mul_neg] at this
    omega
theorem zr_m (a b : Int64) : zR (a.toInt * b.toInt) := by
  have h := mul_b a b
  constructor <;> omega
theorem ord_lt (a b : Int) : sp_ord a b < 0 ↔ a < b := by
  unfold sp_ord
  split
  · exact ⟨fun _ => by assumption, fun _ => by decide⟩
  · split
    · exact ⟨fun q => absurd q (by decide), fun q => by omega⟩
    · exact ⟨fun q => absurd q (by decide), fun q => by omega⟩
theorem ord_gt (a b : Int) : 0 < sp_ord a b ↔ b < a := by
  unfold sp_ord
  split
  · exact ⟨fun q => absurd q (by decide), fun q => by omega⟩
  · split
    · exact ⟨fun q => absurd q (by decide), fun q => by omega⟩
    · exact ⟨fun _ => by omega, fun _ => by decide⟩
theorem okW_c {w : Int32} (h : ¬ w < 0 ∧ ¬ 3 < w) : w = 0 ∨ w = 1 ∨ w = 2 ∨ w = 3 := by
  obtain ⟨h1, h2⟩ := h
  rw [Int32.lt_iff_toInt_lt] at h1 h2
  have e0 : (0 : Int32).toInt = 0 := by decide
  have e1 : (1 : Int32).toInt = 1 := by decide
  have e2 : (2 : Int32).toInt = 2 := by decide
  have e3 : (3 : Int32).toInt = 3 := by decide
  rw [← Int32.toInt_inj, ← Int32.toInt_inj, ← Int32.toInt_inj, ← Int32.toInt_inj]
  omega
theorem rq0 (r d : Nat) (ng : Prop) : rq_up r d ng 0 ↔ (ng ∧ r ≠ 0) := by
  have a : ¬ (0 : Int32) = 1 := by decide
  have b : ¬ (0 : Int32) = 3 := by decide
  simp [rq_up, a, b]
theorem rq1 (r d : Nat) (ng : Prop) : rq_up r d ng 1 ↔ (¬ ng ∧ r ≠ 0) := by
  have a : ¬ (1 : Int32) = 0 := by decide
  have b : ¬ (1 : Int32) = 3 := by decide
  simp [rq_up, a, b]
theorem rq2 (r d : Nat) (ng : Prop) : ¬ rq_up r d ng 2 := by
  have a : ¬ (2 : Int32) = 0 := by decide
  have b : ¬ (2 : Int32) = 1 := by decide
  have c : ¬ (2 : Int32) = 3 := by decide
  simp [rq_up, a, b, c]
theorem rq3 (r d : Nat) (ng : Prop) : rq_up r d ng 3 ↔ d ≤ 2 * r := by
  have a : ¬ (3 : Int32) = 0 := by decide
  have b : ¬ (3 : Int32) = 1 := by decide
  simp [rq_up, a, b]
theorem un_ne {r : Int64} (h : ¬ r = 0) : uN r ≠ 0 := fun q => h (uN_inj (q.trans un_0.symm))
theorem un_e0 {r : Int64} (h : r = 0) : ¬ uN r ≠ 0 := fun q => q (by rw [h]; exact un_0)
theorem half_c {r d : Int64} (h1 : uN r < uN d) (h2 : uN d ≤ 9223372036854775808) : (r ≤ d - 1 - r) ↔ ¬ uN d ≤ 2 * uN r := by
  have a := un_sub (d - 1) r
  have b := un_sub d 1
  have b' := un_c (d - 1)
  have c := un_c d
  have e := un_c r
  have f : (1 : Int64).toInt = 1 := by decide
  have g : (d - 1 - r).toInt = (uN d : Int) - 1 - uN r := un_eq (by omega) (by omega) (by omega)
  have i : r.toInt = (uN r : Int) := un_eq (by omega) (by omega) (by omega)
  rw [Int64.le_iff_toInt_le, g, i]
  omega
/-- the size of a divisor -/
theorem sz_neg {c : Int64} (h : ¬ 0 ≤ c) : uN (-c) = c.toInt.natAbs := by
  rw [Int64.le_iff_toInt_le] at h
  have e : (0 : Int64).toInt = 0 := by decide
  have a := un_neg c
  have b := un_lo c
  omega
theorem sz_pos {c : Int64} (h : 0 ≤ c) : uN c = c.toInt.natAbs := by
  rw [Int64.le_iff_toInt_le] at h
  have e : (0 : Int64).toInt = 0 := by decide
  have a := un_c c
  have b := un_hi c
  omega
theorem l_neg {c : Int64} : (0 ≤ c) ↔ ¬ c.toInt < 0 := by
  rw [Int64.le_iff_toInt_le]
  have e : (0 : Int64).toInt = 0 := by decide
  omega
theorem l_ne {c : Int64} (h : ¬ c = 0) : 0 < c.toInt.natAbs := by
  have a : c.toInt ≠ 0 := fun q => h (Int64.toInt_inj.mp (by rw [q]; decide))
  omega
theorem l_abs (c : Int64) : c.toInt.natAbs ≤ 9223372036854775808 := by
  have a := un_lo c
  have b := un_hi c
  omega
theorem rq_szb {n d : Int} {w : Int32} (h1 : -85070591730234615865843651857942052864 ≤ n) (h2 : n ≤ 85070591730234615865843651857942052864) : 0 ≤ rq_sz n d w ∧ rq_sz n d w ≤ 85070591730234615865843651857942052865 := by
  unfold rq_sz
  have : n.natAbs / d.natAbs ≤ n.natAbs := Nat.div_le_self _ _
  generalize n.natAbs / d.natAbs = q at *
  split <;> omega
theorem rq_b {n d : Int} {w : Int32} (h1 : -85070591730234615865843651857942052864 ≤ n) (h2 : n ≤ 85070591730234615865843651857942052864) : zR (rq n d w) := by
  have h := rq_szb (d := d) (w := w) h1 h2
  unfold rq
  split <;> constructor <;> omega
theorem zr_e {a b : Int64} {y : Int} (y1 : -1000000000000000000000000000000000000 < y) (y2 : y < 1000000000000000000000000000000000000) : zR (a.toInt * b.toInt + y) := by
  have h := mul_b a b
  constructor <;> omega
theorem zr_t {x y : Int} (x1 : -1000000000000000000000000000000000000 < x) (x2 : x < 1000000000000000000000000000000000000) (y1 : -1000000000000000000000000000000000000 < y) (y2 : y < 1000000000000000000000000000000000000) : zR (x + y) := by
  constructor <;> omega
theorem zr_ab {x : Int} (h : zR x) (h2 : zR (-x)) : zR (x.natAbs : Int) := by
  obtain ⟨a, b⟩ := h
  obtain ⟨c, d⟩ := h2
  constructor <;> omega
theorem zr_x {x : Int} (x1 : -1000000000000000000000000000000000000 < x) (x2 : x < 1000000000000000000000000000000000000) : zR x ∧ zR (-x) ∧ zR (x.natAbs : Int) := by
  refine ⟨?_, ?_, ?_⟩ <;> constructor <;> omega
theorem sz_fin {o : Int} {sz c r : Int64} (hs : uN sz = c.toInt.natAbs) (hr : (uN r : Int) = (o.natAbs : Int) % (uN sz : Int)) : uN r = o.natAbs % c.toInt.natAbs ∧ (o.natAbs : Int) / (uN sz : Int) = ((o.natAbs / c.toInt.natAbs : Nat) : Int) := by
  rw [hs] at hr ⊢
  rw [← Int.natCast_emod] at hr
  rw [← Int.natCast_ediv]
  exact ⟨Int.natCast_inj.mp hr, rfl⟩
theorem un_18 : uN 1000000000000000000 = 1000000000000000000 := by decide
theorem div_b {n : Nat} {d : Nat} : (0 : Int) ≤ (n : Int) / (d : Int) ∧ (n : Int) / (d : Int) ≤ (n : Int) := by
  rw [← Int.natCast_ediv]
  have := Nat.div_le_self n d
  generalize n / d = q at *
  omega
theorem sp_p {z : Int} {d r : Int64} (hz : ¬ z < 0) (hd : 0 < d.toInt) (hr : (uN r : Int) = (z.natAbs : Int) % (uN d : Int)) : r = zl (z.tmod d.toInt) ∧ (z.natAbs : Int) / (uN d : Int) = z.tdiv d.toInt := by
  have a := un_c d
  have b := un_hi d
  have e : (uN d : Int) = d.toInt := by omega
  have f : (z.natAbs : Int) = z := by omega
  rw [e, f] at hr
  rw [e, f, Int.tmod_eq_emod_of_nonneg (by omega), Int.tdiv_eq_ediv_of_nonneg (by omega)]
  refine ⟨uN_inj ?_, rfl⟩
  have g := zl_un (z % d.toInt)
  have h := uN_lt r
  omega
theorem sp_n {z : Int} {d r : Int64} (hz : z < 0) (hd : 0 < d.toInt) (hr : (uN r : Int) = (z.natAbs : Int) % (uN d : Int)) : -r = zl (z.tmod d.toInt) ∧ -((z.natAbs : Int) / (uN d : Int)) = z.tdiv d.toInt := by
  have a := un_c d
  have b := un_hi d
  have e : (uN d : Int) = d.toInt := by omega
  obtain ⟨n, rfl⟩ : ∃ n : Nat, z = -(n : Int) := ⟨z.natAbs, by omega⟩
  have f : ((-(n : Int)).natAbs : Int) = n := by omega
  rw [e, f] at hr
  rw [e, f, Int.neg_tmod, Int.neg_tdiv, Int.tmod_eq_emod_of_nonneg (by omega), Int.tdiv_eq_ediv_of_nonneg (by omega)]
  refine ⟨uN_inj ?_, rfl⟩
  have g := zl_un (-((n : Int) % d.toInt))
  have h := uN_lt r
  have i := un_neg r
  have j := un_c r
  omega
theorem tdiv_b {z d : Int} (z1 : -1000000000000000000000000000000000000 < z) (z2 : z < 1000000000000000000000000000000000000) : -1000000000000000000000000000000000000 < z.tdiv d ∧ z.tdiv d < 1000000000000000000000000000000000000 := by
  have h := Int.natAbs_tdiv_le_natAbs z d
  omega
theorem sLen_hi {v u L : Nat} (hu : u = v / 1000000000000000000) (h0 : u ≠ 0) (h : sLen u L) : sLen v (18 + L) := by
  obtain ⟨h1, h2, h3⟩ := h
  have e : (10 : Nat) ^ 18 = 1000000000000000000 := by decide
  refine ⟨by omega, ?_, Or.inr ?_⟩
  · rw [Nat.pow_add, e]
    generalize 10 ^ L = x at h2 ⊢
    omega
  · rw [show 18 + L - 1 = 18 + (L - 1) by omega, Nat.pow_add, e]
    rcases h3 with rfl | h3
    · simp only [Nat.sub_self, Nat.pow_zero]
      omega
    · generalize 10 ^ (L - 1) = x at h3 ⊢
      omega
theorem l_le0 {r : Int64} (h : uN r < 9223372036854775808) : (r ≤ 0) ↔ uN r = 0 := by
  rw [Int64.le_iff_toInt_le]
  have e : (0 : Int64).toInt = 0 := by decide
  have a := un_c r
  have b : r.toInt = (uN r : Int) := un_eq (by omega) (by omega) (by omega)
  omega
theorem dg_lo {v K : Nat} (h : K < 18) : v % 1000000000000000000 / 10 ^ K % 10 = v / 10 ^ K % 10 := by
  have e : 1000000000000000000 = 10 ^ K * 10 ^ (18 - K) := by rw [← Nat.pow_add, show K + (18 - K) = 18 by omega]
  rw [e, Nat.mod_mul_right_div_self]
  exact Nat.mod_mod_of_dvd _ ⟨10 ^ (17 - K), by rw [show 18 - K = (17 - K) + 1 by omega, Nat.pow_succ, Nat.mul_comm]⟩
theorem dg_hi {v K : Nat} (h : 18 ≤ K) : v / 1000000000000000000 / 10 ^ (K - 18) = v / 10 ^ K := by
  rw [Nat.div_div_eq_div_mul, show (1000000000000000000 : Nat) = 10 ^ 18 by decide, ← Nat.pow_add, show 18 + (K - 18) = K by omega]
theorem ix_n {k : Int32} (h : ¬ k < 0) : k = nI k.toNatClampNeg := by
  obtain ⟨j, h1, h2⟩ := nI_of h
  rw [h2, nI_clamp h1]
theorem lt36 {k : Int32} (h : ¬ k < 0) (h2 : k < 36) : k.toNatClampNeg < 36 := by
  have e := ix_n h
  have a : k.toNatClampNeg < 2 ^ 31 := by
    obtain ⟨j, q1, q2⟩ := nI_of h
    rw [q2, nI_clamp q1]; exact q1
  rw [e] at h2
  exact (nI_ltI a (by decide)).mp h2
theorem lt18 {k : Int32} (h : ¬ k < 0) : ((18 : Int32) ≤ k) ↔ 18 ≤ k.toNatClampNeg := by
  have e := ix_n h
  have a : k.toNatClampNeg < 2 ^ 31 := by
    obtain ⟨j, q1, q2⟩ := nI_of h
    rw [q2, nI_clamp q1]; exact q1
  constructor
  · intro q
    rw [e] at q
    exact (nI_leI (a := 18) (by decide) a).mp q
  · intro q
    rw [e]
    exact (nI_leI (a := 18) (by decide) a).mpr q
theorem l_of {h : Int64} (q : uN h < 9223372036854775808) : h = lN (uN h) := by
  apply uN_inj
  have a := pk_lT q
  have b := un_c (lN (uN h))
  rw [a] at b
  omega
theorem k18 {k : Int32} (h : ¬ k < 0) (h2 : (18 : Int32) ≤ k) : k - 18 = nI (k.toNatClampNeg - 18) := by
  have q := (lt18 h).mp h2
  have e := ix_n h
  have t : nI k.toNatClampNeg - nI 18 = nI (k.toNatClampNeg - 18) := pk_sub q
  rw [← e] at t
  exact t
