/-! the desk: its cells by index, its registers rf, its tallies tv, what stands in its outcome -/
abbrev wdI (z : Int) : va_E := .inr (ciW, [.long (zh z), .long (zl z)])
theorem wd_eq {ws : va_W} {k h0 : Nat} {h w : Int64} {z : Int} (e : h = zh z ∧ w = zl z) : ws.set k (h0, .inr (ciW, [.long h, .long w])) = ws.set k (h0, wdI z) := by rw [e.1, e.2]
def xd (w0 ws : va_W) (tys : xT) (ad : Nat → Nat) (cA : Nat → ClassId) (g : Nat → Option Nat) (rf : Nat → Int64) (tv : Nat → Int) (o : Int) : Prop :=
  ws[0]? = some (ad 0, .inr (ciE, [.ref (ad 1), .ref (ad 2), .ref (ad 7), .ref (ad 8), .ref (ad 9)])) ∧ ws[1]? = some (ad 1, .inl (cA 0, 8, .inr (.inl rf))) ∧ ws[2]? = some (ad 2, .inl (cA 1, 4, .inr (.inr (.inr (.inr g))))) ∧
  ws[7]? = some (ad 7, wdI 1000000000000000000000000000000000000) ∧ ws[8]? = some (ad 8, wdI (-1000000000000000000000000000000000000)) ∧ ws[9]? = some (ad 9, wdI o) ∧
  (∀ j, j < 4 → ws[3 + j]? = some (ad (3 + j), wdI (tv j)) ∧ g j = some (ad (3 + j)) ∧ -1000000000000000000000000000000000000 < tv j ∧ tv j < 1000000000000000000000000000000000000) ∧ (∀ j, 10 ≤ j → ws[j]? = w0[j]?) ∧ tys[0]? = some (cA 0, .long) ∧ tys[1]? = some (cA 1, .object RWide)
section XD
variable {w0 ws ws1 : va_W} {tys : xT} {ad : Nat → Nat} {cA : Nat → ClassId} {g : Nat → Option Nat} {rf : Nat → Int64} {tv : Nat → Int} {o : Int}
theorem xd_a0 (X : xd w0 ws tys ad cA g rf tv o) : ws[0]? = some (ad 0, .inr (ciE, [.ref (ad 1), .ref (ad 2), .ref (ad 7), .ref (ad 8), .ref (ad 9)])) := X.1
theorem xd_a1 (X : xd w0 ws tys ad cA g rf tv o) : ws[1]? = some (ad 1, .inl (cA 0, 8, .inr (.inl rf))) := X.2.1
theorem xd_a2 (X : xd w0 ws tys ad cA g rf tv o) : ws[2]? = some (ad 2, .inl (cA 1, 4, .inr (.inr (.inr (.inr g))))) := X.2.2.1
theorem xd_a7 (X : xd w0 ws tys ad cA g rf tv o) : ws[7]? = some (ad 7, wdI 1000000000000000000000000000000000000) := X.2.2.2.1
theorem xd_a8 (X : xd w0 ws tys ad cA g rf tv o) : ws[8]? = some (ad 8, wdI (-1000000000000000000000000000000000000)) := X.2.2.2.2.1
theorem xd_a9 (X : xd w0 ws tys ad cA g rf tv o) : ws[9]? = some (ad 9, wdI o) := X.2.2.2.2.2.1
theorem xd_tl (X : xd w0 ws tys ad cA g rf tv o) {j : Nat} (h : j < 4) : ws[3 + j]? = some (ad (3 + j), wdI (tv j)) := (X.2.2.2.2.2.2.1 j h).1
theorem xd_gj (X : xd w0 ws tys ad cA g rf tv o) {j : Nat} (h : j < 4) : g j = some (ad (3 + j)) := (X.2.2.2.2.2.2.1 j h).2.1
theorem xd_lo (X : xd w0 ws tys ad cA g rf tv o) {j : Nat} (h : j < 4) : -1000000000000000000000000000000000000 < tv j := (X.2.2.2.2.2.2.1 j h).2.2.1
theorem xd_hi (X : xd w0 ws tys ad cA g rf tv o) {j : Nat} (h : j < 4) : tv j < 1000000000000000000000000000000000000 := (X.2.2.2.2.2.2.1 j h).2.2.2
theorem xd_zr (X : xd w0 ws tys ad cA g rf tv o) {j : Nat} (h : j < 4) : zR (tv j) := by
  have a := xd_lo X h
  have b := xd_hi X h
  constructor <;> omega
theorem xd_rest (X : xd w0 ws tys ad cA g rf tv o) : ∀ j, 10 ≤ j → ws[j]? = w0[j]? := X.2.2.2.2.2.2.2.1
theorem xd_t0 (X : xd w0 ws tys ad cA g rf tv o) : tys[0]? = some (cA 0, .long) := X.2.2.2.2.2.2.2.2.1
theorem xd_t1 (X : xd w0 ws tys ad cA g rf tv o) : tys[1]? = some (cA 1, .object RWide) := X.2.2.2.2.2.2.2.2.2
theorem xd_setO (X : xd w0 ws tys ad cA g rf tv o) {o1 : Int} (h : ws1 = ws.set 9 (ad 9, wdI o1)) : xd w0 ws1 tys ad cA g rf tv o1 := by
  subst h
  obtain ⟨h0, h1, h2, h7, h8, h9, ht, hr, hy⟩ := X
  refine ⟨by rw [sgN (by decide)]; exact h0, by rw [sgN (by decide)]; exact h1, by rw [sgN (by decide)]; exact h2, by rw [sgN (by decide)]; exact h7, by rw [sgN (by decide)]; exact h8, sgS h9, fun j hj => ?_, fun j hj => ?_, hy⟩
  · rw [sgN (by omega)]; exact ht j hj
  · rw [sgN (by omega)]; exact hr j hj
theorem xd_setT (X : xd w0 ws tys ad cA g rf tv o) {i : Nat} (hi : i < 4) {z : Int} (z1 : -1000000000000000000000000000000000000 < z) (z2 : z < 1000000000000000000000000000000000000) (h : ws1 = ws.set (3 + i) (ad (3 + i), wdI z)) : xd w0 ws1 tys ad cA g rf (va_up tv i z) o := by
  subst h
  obtain ⟨h0, h1, h2, h7, h8, h9, ht, hr, hy⟩ := X
  refine ⟨by rw [sgN (by omega)]; exact h0, by rw [sgN (by omega)]; exact h1, by rw [sgN (by omega)]; exact h2, by rw [sgN (by omega)]; exact h7, by rw [sgN (by omega)]; exact h8, by rw [sgN (by omega)]; exact h9, fun j hj => ?_, fun j hj => ?_, hy⟩
  · obtain ⟨t1, t2, t3, t4⟩ := ht j hj
    by_cases e : j = i
    · subst e
      rw [show va_up tv j z j = z from if_pos rfl]
      exact ⟨sgS t1, t2, z1, z2⟩
    · rw [show va_up tv i z j = tv j from if_neg e, sgN (by omega)]
      exact ⟨t1, t2, t3, t4⟩
  · rw [sgN (by omega)]; exact hr j hj
theorem xd_setR (X : xd w0 ws tys ad cA g rf tv o) {rf1 : Nat → Int64} (h : ws1 = ws.set 1 (ad 1, .inl (cA 0, 8, .inr (.inl rf1)))) : xd w0 ws1 tys ad cA g rf1 tv o := by
  subst h
  obtain ⟨h0, h1, h2, h7, h8, h9, ht, hr, hy⟩ := X
  refine ⟨by rw [sgN (by decide)]; exact h0, sgS h1, by rw [sgN (by decide)]; exact h2, by rw [sgN (by decide)]; exact h7, by rw [sgN (by decide)]; exact h8, by rw [sgN (by decide)]; exact h9, fun j hj => ?_, fun j hj => ?_, hy⟩
  · rw [sgN (by omega)]; exact ht j hj
  · rw [sgN (by omega)]; exact hr j hj
end XD
theorem in8 {r : Int32} (h : ¬ r < 0 ∧ r < 8) : vp_in r 8 := by
  obtain ⟨h1, h2⟩ := h
  rw [Int32.lt_iff_toInt_lt] at h1 h2
  have e0 : (0 : Int32).toInt = 0 := by decide
  have e8 : (8 : Int32).toInt = 8 := by decide
  exact vp_in_iff.mpr (by omega)
theorem in4 {r : Int32} (h : ¬ r < 0 ∧ r < 4) : vp_in r 4 := by
  obtain ⟨h1, h2⟩ := h
  rw [Int32.lt_iff_toInt_lt] at h1 h2
  have e0 : (0 : Int32).toInt = 0 := by decide
  have e8 : (4 : Int32).toInt = 4 := by decide
  exact vp_in_iff.mpr (by omega)
theorem vin_lt {r : Int32} {n : Nat} (h : vp_in r n) : r.toNatClampNeg < n := Nat.not_le.mp fun q => h (Or.inr q)
/-! what the document asks, as functions of the state (registers, tallies) -/
abbrev sS : Type := (Nat → Int64) × (Nat → Int)
abbrev okR (r : Int32) : Prop := ¬ r < 0 ∧ r < 8
abbrev okT (t : Int32) : Prop := ¬ t < 0 ∧ t < 4
abbrev okW (w : Int32) : Prop := ¬ w < 0 ∧ ¬ 3 < w
def sp_kR (S : sS) (r : Int32) (v : Int) : Int32 × sS := if v < -9223372036854775808 then (2, S) else if 9223372036854775808 ≤ v then (1, S) else (0, (vp_updL S.1 r.toNatClampNeg (zl v), S.2))
def sp_kT (S : sS) (t : Int32) (v : Int) : Int32 × sS := if 1000000000000000000000000000000000000 ≤ v then (1, S) else if v ≤ -1000000000000000000000000000000000000 then (2, S) else (0, (S.1, va_up S.2 t.toNatClampNeg v))
def sp_set (S : sS) (r : Int32) (v : Int64) : Int32 × sS := if okR r then (1, (vp_updL S.1 r.toNatClampNeg v, S.2)) else (0, S)
def sp_get (S : sS) (r : Int32) : Int64 := if okR r then S.1 r.toNatClampNeg else 0
def sp_add (S : sS) (r : Int32) (v : Int64) : Int32 × sS := if okR r then sp_kR S r ((S.1 r.toNatClampNeg).toInt + v.toInt) else (-1, S)
def sp_sub (S : sS) (r : Int32) (v : Int64) : Int32 × sS := if okR r then sp_kR S r ((S.1 r.toNatClampNeg).toInt - v.toInt) else (-1, S)
def sp_times (S : sS) (r : Int32) (v : Int64) : Int32 × sS := if okR r then sp_kR S r ((S.1 r.toNatClampNeg).toInt * v.toInt) else (-1, S)
/-- does a quotient's size go up by one? r: what is left over, d: the divisor's size; ng: is the quotient below 0 -/
abbrev rq_up (r d : Nat) (ng : Prop) (w : Int32) : Prop := (w = 0 ∧ ng ∧ r ≠ 0) ∨ (w = 1 ∧ ¬ ng ∧ r ≠ 0) ∨ (w = 3 ∧ d ≤ 2 * r)
abbrev rq_ng (n d : Int) : Prop := ¬ ((n < 0) ↔ (d < 0))
/-- the size of a rounded quotient -/
def rq_sz (n d : Int) (w : Int32) : Int := ((n.natAbs / d.natAbs : Nat) : Int) + (if rq_up (n.natAbs % d.natAbs) d.natAbs (rq_ng n d) w then 1 else 0)
def rq (n d : Int) (w : Int32) : Int := if rq_ng n d then -(rq_sz n d w) else rq_sz n d w
def sp_share (S : sS) (r : Int32) (b c : Int64) (w : Int32) : Int32 × sS := if okR r ∧ okW w then (if c = 0 then (3, S) else sp_kR S r (rq ((S.1 r.toNatClampNeg).toInt * b.toInt) c.toInt w)) else (-1, S)
def sp_enter (S : sS) (t r : Int32) (v : Int64) : Int32 × sS := if okT t ∧ okR r then sp_kT S t ((S.1 r.toNatClampNeg).toInt * v.toInt + S.2 t.toNatClampNeg) else (-1, S)
def sp_merge (S : sS) (t u : Int32) : Int32 × sS := if okT t ∧ okT u then sp_kT S t (S.2 t.toNatClampNeg + S.2 u.toNatClampNeg) else (-1, S)
def sp_split (S : sS) (t : Int32) (d : Int64) (r : Int32) : Int32 × sS := if okT t ∧ okR r ∧ ¬ d < 0 ∧ ¬ 1000000000000000000 < d then (if d = 0 then (3, S) else (0, (vp_updL S.1 r.toNatClampNeg (zl ((S.2 t.toNatClampNeg).tmod d.toInt)), va_up S.2 t.toNatClampNeg ((S.2 t.toNatClampNeg).tdiv d.toInt)))) else (-1, S)
def sp_take (S : sS) (t r : Int32) : Int32 × sS := if okT t ∧ okR r then sp_kR S r (S.2 t.toNatClampNeg) else (-1, S)
def sp_clear (S : sS) (t : Int32) : Int32 × sS := if okT t then (1, (S.1, va_up S.2 t.toNatClampNeg 0)) else (0, S)
def sp_ord (a b : Int) : Int32 := if a < b then -1 else if a = b then 0 else 1
def sp_cmp (S : sS) (t u : Int32) : Int32 := if okT t ∧ okT u then sp_ord (S.2 t.toNatClampNeg) (S.2 u.toNatClampNeg) else -2
/-- L is the number of digits of n -/
def sLen (n L : Nat) : Prop := 1 ≤ L ∧ n < 10 ^ L ∧ (L = 1 ∨ 10 ^ (L - 1) ≤ n)
theorem sLen_u {n L K : Nat} (h : sLen n L) (k : sLen n K) : L = K := by
  obtain ⟨h1, h2, h3⟩ := h
  obtain ⟨k1, k2, k3⟩ := k
  rcases Nat.lt_trichotomy L K with q | q | q
  · rcases k3 with z | z
    · omega
    · have := Nat.pow_le_pow_right (show 0 < 10 by decide) (show L ≤ K - 1 by omega)
      omega
  · exact q
  · rcases h3 with z | z
    · omega
    · have := Nat.pow_le_pow_right (show 0 < 10 by decide) (show K ≤ L - 1 by omega)
      omega
def sp_digits (S : sS) (t : Int32) (a : Int32) : Prop := if okT t then ∃ L, sLen (S.2 t.toNatClampNeg).natAbs L ∧ L ≤ 36 ∧ a = (if S.2 t.toNatClampNeg < 0 then -nI L else nI L) else a = 0
def sp_digit (S : sS) (t k : Int32) : Int32 := if okT t ∧ ¬ k < 0 ∧ k < 36 then nI ((S.2 t.toNatClampNeg).natAbs / 10 ^ k.toNatClampNeg % 10) else -1
