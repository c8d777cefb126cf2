/-! numbers by their decimal digits: an int array f holds (the 80 lower digits of) v -/
def dg (f : Nat → Int32) (v : Nat) : Prop := ∀ j, j < 80 → f j = nI (v / 10 ^ j % 10)
theorem nlt {x N : Int32} {k M : Nat} (hN : N = nI M) (ex : x = nI k) (hM : M < 2 ^ 31) (c : ¬ N ≤ x) (hk : k < 2 ^ 31) : k < M := by
  rcases Nat.lt_or_ge k M with q | q
  · exact q
  · exact absurd (by rw [hN, ex]; exact nI_le q hk) c
theorem nge {x N : Int32} {k M : Nat} (hN : N = nI M) (ex : x = nI k) (hM : M < 2 ^ 31) (c : N ≤ x) (hk : k < 2 ^ 31) : M ≤ k := by
  rw [hN, ex] at c
  exact (nI_leI hM hk).mp c
theorem p10 (k : Nat) : 0 < 10 ^ k := Nat.pow_pos (by decide)
theorem d9 (v k : Nat) : v / 10 ^ k % 10 < 10 := Nat.mod_lt _ (by decide)
theorem pd_mod (x k : Nat) : x % 10 ^ (k + 1) = x % 10 ^ k + 10 ^ k * (x / 10 ^ k % 10) := Nat.mod_pow_succ
/-- the carry into place k of a sum -/
def cy (X Y k : Nat) : Nat := (X % 10 ^ k + Y % 10 ^ k) / 10 ^ k
theorem cy_0 (X Y : Nat) : cy X Y 0 = 0 := by simp [cy, Nat.mod_one]
theorem cy_le (X Y k : Nat) : cy X Y k ≤ 1 := by
  have h := p10 k
  have a := Nat.mod_lt X h
  have b := Nat.mod_lt Y h
  have : cy X Y k < 2 := (Nat.div_lt_iff_lt_mul h).mpr (by omega)
  omega
theorem cy_div (X Y k : Nat) : (X + Y) / 10 ^ k = X / 10 ^ k + Y / 10 ^ k + cy X Y k := by
  have h := p10 k
  have e : X + Y = 10 ^ k * (X / 10 ^ k + Y / 10 ^ k) + (X % 10 ^ k + Y % 10 ^ k) := by
    have a := Nat.div_add_mod X (10 ^ k)
    have b := Nat.div_add_mod Y (10 ^ k)
    rw [Nat.mul_add]
    omega
  rw [e, Nat.mul_add_div h]
  rfl
theorem cy_dig (X Y k : Nat) : (X / 10 ^ k % 10 + Y / 10 ^ k % 10 + cy X Y k) % 10 = (X + Y) / 10 ^ k % 10 := by
  rw [cy_div]
  omega
theorem cy_succ (X Y k : Nat) : (X / 10 ^ k % 10 + Y / 10 ^ k % 10 + cy X Y k) / 10 = cy X Y (k + 1) := by
  have h := p10 k
  unfold cy
  rw [pd_mod X k, pd_mod Y k, show X % 10 ^ k + 10 ^ k * (X / 10 ^ k % 10) + (Y % 10 ^ k + 10 ^ k * (Y / 10 ^ k % 10)) = 10 ^ k * (X / 10 ^ k % 10 + Y / 10 ^ k % 10) + (X % 10 ^ k + Y % 10 ^ k) by rw [Nat.mul_add]; omega, Nat.pow_succ, ← Nat.div_div_eq_div_mul, Nat.mul_add_div h]
/-- the borrow into place k of a difference X - Y -/
def bw (X Y k : Nat) : Nat := if X % 10 ^ k < Y % 10 ^ k then 1 else 0
theorem bw_cy {X Y : Nat} (h : Y ≤ X) (k : Nat) : bw X Y k = cy Y (X - Y) k := by
  have hp := p10 k
  have a := Nat.mod_lt Y hp
  have b := Nat.mod_lt (X - Y) hp
  have c := cy_le Y (X - Y) k
  have e : X % 10 ^ k + 10 ^ k * cy Y (X - Y) k = Y % 10 ^ k + (X - Y) % 10 ^ k := by
    have q := Nat.mod_add_div (Y % 10 ^ k + (X - Y) % 10 ^ k) (10 ^ k)
    have r : (Y % 10 ^ k + (X - Y) % 10 ^ k) % 10 ^ k = X % 10 ^ k := by rw [← Nat.add_mod, show Y + (X - Y) = X by omega]
    rw [r] at q
    exact q
  have d := Nat.mod_lt X hp
  unfold bw
  rcases (show cy Y (X - Y) k = 0 ∨ cy Y (X - Y) k = 1 by omega) with q | q
  · rw [q, Nat.mul_zero] at e
    rw [q, if_neg (by omega)]
  · rw [q, Nat.mul_one] at e
    rw [q, if_pos (by omega)]
theorem bw_0 (X Y : Nat) : bw X Y 0 = 0 := by simp [bw, Nat.mod_one]
theorem bw_le (X Y k : Nat) : bw X Y k ≤ 1 := by unfold bw; split <;> omega
/-- one place of a difference -/
theorem bw_step {X Y : Nat} (h : Y ≤ X) (k : Nat) : (X / 10 ^ k % 10 < Y / 10 ^ k % 10 + bw X Y k → X / 10 ^ k % 10 + 10 - Y / 10 ^ k % 10 - bw X Y k = (X - Y) / 10 ^ k % 10 ∧ bw X Y (k + 1) = 1) ∧ (Y / 10 ^ k % 10 + bw X Y k ≤ X / 10 ^ k % 10 → X / 10 ^ k % 10 - Y / 10 ^ k % 10 - bw X Y k = (X - Y) / 10 ^ k % 10 ∧ bw X Y (k + 1) = 0) := by
  have a := cy_dig Y (X - Y) k
  have b := cy_succ Y (X - Y) k
  rw [show Y + (X - Y) = X by omega] at a
  rw [bw_cy h k, bw_cy h (k + 1)]
  have c := cy_le Y (X - Y) k
  have d := d9 Y k
  have e := d9 (X - Y) k
  generalize cy Y (X - Y) k = q at *
  generalize cy Y (X - Y) (k + 1) = r at *
  omega
theorem sb10 : ∀ a, a < 10 → ∀ b, b < 10 → ∀ c, c < 2 → ((0 ≤ nI a - nI b - nI c ↔ b + c ≤ a) ∧ (a < b + c → nI a - nI b - nI c + 10 = nI (a + 10 - b - c)) ∧ (b + c ≤ a → nI a - nI b - nI c = nI (a - b - c))) := by decide +kernel
/-- order of two numbers by their lower digits -/
theorem od_step (X Y k : Nat) : sp_ord ((X % 10 ^ (k + 1) : Nat) : Int) ((Y % 10 ^ (k + 1) : Nat) : Int) = if X / 10 ^ k % 10 < Y / 10 ^ k % 10 then -1 else if Y / 10 ^ k % 10 < X / 10 ^ k % 10 then 1 else sp_ord ((X % 10 ^ k : Nat) : Int) ((Y % 10 ^ k : Nat) : Int) := by
  have hp := p10 k
  have a := Nat.mod_lt X hp
  have b := Nat.mod_lt Y hp
  rw [pd_mod X k, pd_mod Y k]
  generalize X % 10 ^ k = x at *
  generalize Y % 10 ^ k = y at *
  generalize X / 10 ^ k % 10 = u at *
  generalize Y / 10 ^ k % 10 = v at *
  generalize 10 ^ k = p at *
  unfold sp_ord
  rcases Nat.lt_trichotomy u v with q | q | q
  · have : p * u + p ≤ p * v := by rw [← Nat.mul_succ]; exact Nat.mul_le_mul_left p q
    rw [if_pos q, if_pos (by omega)]
  · subst q
    rw [if_neg (Nat.lt_irrefl u), if_neg (Nat.lt_irrefl u)]
    have e1 : (((x + p * u : Nat) : Int) < ((y + p * u : Nat) : Int)) ↔ ((x : Int) < (y : Int)) := by omega
    have e2 : (((x + p * u : Nat) : Int) = ((y + p * u : Nat) : Int)) ↔ ((x : Int) = (y : Int)) := by omega
    simp only [e1, e2]
  · have : p * v + p ≤ p * u := by rw [← Nat.mul_succ]; exact Nat.mul_le_mul_left p q
    rw [if_neg (by omega), if_pos q, if_neg (by omega), if_neg (by omega)]
theorem od_0 (X Y : Nat) : sp_ord ((X % 10 ^ 0 : Nat) : Int) ((Y % 10 ^ 0 : Nat) : Int) = 0 := by
  rw [Nat.pow_zero, Nat.mod_one, Nat.mod_one]; decide
theorem nI_lt10 {a b : Nat} (ha : a < 10) (hb : b < 10) : (nI b ≤ nI a) ↔ b ≤ a := nI_leI (by omega) (by omega)
theorem mod_z (X k : Nat) : (X % 10 ^ (k + 1) = 0) ↔ (X % 10 ^ k = 0 ∧ X / 10 ^ k % 10 = 0) := by
  have hp := p10 k
  rw [pd_mod]
  constructor
  · intro h
    have h1 : X % 10 ^ k = 0 := by omega
    have h2 : 10 ^ k * (X / 10 ^ k % 10) = 0 := by omega
    rcases Nat.mul_eq_zero.mp h2 with q | q
    · omega
    · exact ⟨h1, q⟩
  · intro h
    rw [h.1, h.2, Nat.mul_zero]
/-- digits of a long, sign apart -/
theorem lr10 (v : Int64) : v - v / 10 * 10 = Int64.ofInt (v.toInt.tmod 10) ∧ v / 10 = Int64.ofInt (v.toInt.tdiv 10) := by
  have e10 : (10 : Int64).toInt = 10 := by decide
  have h1 : (v / 10).toInt = v.toInt.tdiv 10 := by rw [Int64.toInt_div_of_ne_right _ _ (by decide), e10]
  have h2 : v / 10 = Int64.ofInt (v.toInt.tdiv 10) := by rw [← h1, Int64.ofInt_toInt]
  refine ⟨?_, h2⟩
  apply uN_inj
  have a := un_sub v (v / 10 * 10)
  have b := un_mul (v / 10) 10
  have c := un_c (v / 10 * 10)
  have d := zl_un (v.toInt.tmod 10)
  rw [h1, e10] at b
  have f : v.toInt.tdiv 10 * 10 + v.toInt.tmod 10 = v.toInt := Int.tdiv_mul_add_tmod _ _
  have g : (uN (Int64.ofInt (v.toInt.tmod 10)) : Int) = v.toInt.tmod 10 % 18446744073709551616 := d
  omega
theorem dig_l {z : Int} (h1 : -9223372036854775808 ≤ z) (h2 : z < 9223372036854775808) : (if 0 ≤ (Int64.ofInt (z.tmod 10)).toInt32 then (Int64.ofInt (z.tmod 10)).toInt32 else -(Int64.ofInt (z.tmod 10)).toInt32) = nI (z.natAbs % 10) := by
  have key : ∀ n : Nat, n < 10 → (Int64.ofInt (n : Int)).toInt32 = nI n ∧ (Int64.ofInt (-(n : Int))).toInt32 = -nI n ∧ (0 ≤ nI n) ∧ (n = 0 ∨ ¬ 0 ≤ -nI n) ∧ - -nI n = nI n := by decide +kernel
  have hm : z.natAbs % 10 < 10 := Nat.mod_lt _ (by decide)
  obtain ⟨k1, k2, k3, k4, k5⟩ := key _ hm
  by_cases hz : 0 ≤ z
  · have e : z.tmod 10 = ((z.natAbs % 10 : Nat) : Int) := by rw [Int.tmod_eq_emod_of_nonneg hz]; omega
    rw [e, k1, if_pos k3]
  · have e : z.tmod 10 = -((z.natAbs % 10 : Nat) : Int) := by
      have q : z = -((z.natAbs : Nat) : Int) := by omega
      have r : (-((z.natAbs : Nat) : Int)).tmod 10 = -((z.natAbs % 10 : Nat) : Int) := by
        rw [Int.neg_tmod, Int.tmod_eq_emod_of_nonneg (by omega)]
        omega
      rw [← q] at r
      exact r
    rw [e, k2]
    rcases k4 with q | q
    · rw [q]; decide
    · rw [if_neg q, k5]
theorem td_abs (z : Int) (k : Nat) : (z.tdiv ((10 ^ k : Nat) : Int)).natAbs = z.natAbs / 10 ^ k := by
  rw [Int.natAbs_tdiv]; rfl
theorem tdn (n m : Nat) : (n : Int).tdiv (m : Int) = ((n / m : Nat) : Int) := by
  rw [Int.tdiv_eq_ediv_of_nonneg (by omega)]
  rfl
theorem td_succ (z : Int) (k : Nat) : (z.tdiv ((10 ^ k : Nat) : Int)).tdiv 10 = z.tdiv ((10 ^ (k + 1) : Nat) : Int) := by
  have key : ∀ n : Nat, ((n : Int).tdiv ((10 ^ k : Nat) : Int)).tdiv 10 = (n : Int).tdiv ((10 ^ (k + 1) : Nat) : Int) := by
    intro n
    rw [tdn, show (10 : Int) = ((10 : Nat) : Int) from rfl, tdn, tdn, Nat.div_div_eq_div_mul, Nat.pow_succ]
  by_cases hz : 0 ≤ z
  · have e : z = ((z.natAbs : Nat) : Int) := by omega
    rw [e]; exact key _
  · have e : z = -((z.natAbs : Nat) : Int) := by omega
    rw [e, Int.neg_tdiv, Int.neg_tdiv, Int.neg_tdiv, key]
theorem td_0 (z : Int) : z.tdiv ((10 ^ 0 : Nat) : Int) = z := by
  rw [Nat.pow_zero]; exact Int.tdiv_one z
/-! int arrays, by the number of the place -/
section MA
variable {p : Program} {l : Launch} {e : Env} {R : Room} {s : State} {m : MethodId} {args : Array Value} {below : List Frame} {meth : Method} {c : Code} {H : Heap} {locs : List Loc} {cells slots : Nat} {Q : State → Prop}
variable {cc : ByteArray} {pc : Nat} {ls : Array Slot} {rest : List Value} {D : va_G} {A : Nat → Prop} {H0 : Heap} {ws : va_W} {tys : xT} {q0 t0 a n : Nat} {cA : ClassId} {f : Nat → Int32}
theorem ia_ld (hx : p.tables.exec = Jvm.exec) (hb : c.code = cc) (hK : va_K D vwCl tys s) (hP : va_P D vwCl ws H) (ha : ws[q0]? = some (a, .inl (cA, n, .inl f))) (ht : tys[t0]? = some (cA, .int)) {i : Int32} {k : Nat} (hi : i = nI k) (hk : k < n) (hn : n < 2 ^ 31) (hdg : decode cc pc = .ok (.iaload, 1))
    (kk : W p l e R s m args below meth c H locs cells slots Q (F0 m (pc + 1) ls (.int (f k) :: rest))) : W p l e R s m args below meth c H locs cells slots Q (F0 m pc ls (.int i :: .ref a :: rest)) := by
  subst hi
  refine va_iald hx hb hK hP q0 t0 ha ht (vp_in_nI hk hn) hdg ?_
  rw [nI_clamp (by omega)]
  exact kk
theorem ia_st (hx : p.tables.exec = Jvm.exec) (hb : c.code = cc) (hK : va_K D vwCl tys s) (hP : va_P D vwCl ws H) (hD : va_D A ws) (hS : va_S A H0 H locs) (ha : ws[q0]? = some (a, .inl (cA, n, .inl f))) (ht : tys[t0]? = some (cA, .int)) {i x : Int32} {k : Nat} (hi : i = nI k) (hk : k < n) (hn : n < 2 ^ 31) (hdg : decode cc pc = .ok (.iastore, 1))
    (kk : ∀ (ws1 : va_W) (H1 : Heap) (locs1 : List Loc), ws1 = ws.set q0 (a, .inl (cA, n, .inl (upd f k x))) → va_P D vwCl ws1 H1 → va_D A ws1 → va_S A H0 H1 locs1 → W p l e R s m args below meth c H1 locs1 cells slots Q (F0 m (pc + 1) ls rest)) : W p l e R s m args below meth c H locs cells slots Q (F0 m pc ls (.int x :: .int i :: .ref a :: rest)) := by
  subst hi
  refine va_iast hx hb hK hP hD hS q0 t0 ha ht (vp_in_nI hk hn) hdg (fun H1 locs1 hP1 hD1 hS1 => ?_)
  rw [nI_clamp (by omega)] at hP1 hD1
  exact kk _ H1 locs1 rfl hP1 hD1 hS1
end MA
theorem up_s {f : Nat → Int32} {k : Nat} {x : Int32} : upd f k x k = x := pk_us
theorem up_n {f : Nat → Int32} {k j : Nat} {x : Int32} (h : j ≠ k) : upd f k x j = f j := pk_un h
