/-! the reference: its cells by index -/
def md (w0 ws : va_W) (tys : xT) (ad : Nat → Nat) (cB : Nat → ClassId) (rf : Nat → Int64) (tf bf fa fb fc fr : Nat → Int32) (ng : Int32) : Prop :=
  ws[10]? = some (ad 0, .inr (ciM, [.ref (ad 1), .ref (ad 2), .ref (ad 3), .ref (ad 4), .ref (ad 5), .ref (ad 6), .ref (ad 7), .int ng])) ∧ ws[11]? = some (ad 1, .inl (cB 0, 8, .inr (.inl rf))) ∧ ws[12]? = some (ad 2, .inl (cB 1, 160, .inl tf)) ∧ ws[13]? = some (ad 3, .inl (cB 2, 4, .inl bf)) ∧ ws[14]? = some (ad 4, .inl (cB 3, 80, .inl fa)) ∧ ws[15]? = some (ad 5, .inl (cB 4, 80, .inl fb)) ∧ ws[16]? = some (ad 6, .inl (cB 5, 80, .inl fc)) ∧ ws[17]? = some (ad 7, .inl (cB 6, 80, .inl fr)) ∧ (∀ j, j < 10 → ws[j]? = w0[j]?) ∧ tys[2]? = some (cB 0, .long) ∧ tys[3]? = some (cB 1, .int) ∧ tys[4]? = some (cB 2, .boolean) ∧ tys[5]? = some (cB 3, .int) ∧ tys[6]? = some (cB 4, .int) ∧ tys[7]? = some (cB 5, .int) ∧ tys[8]? = some (cB 6, .int)
theorem md_a0 {w0 ws : va_W} {tys : xT} {ad : Nat → Nat} {cB : Nat → ClassId} {rf : Nat → Int64} {tf bf fa fb fc fr : Nat → Int32} {ng : Int32} (M : md w0 ws tys ad cB rf tf bf fa fb fc fr ng) : ws[10]? = some (ad 0, .inr (ciM, [.ref (ad 1), .ref (ad 2), .ref (ad 3), .ref (ad 4), .ref (ad 5), .ref (ad 6), .ref (ad 7), .int ng])) := M.1
theorem md_a1 {w0 ws : va_W} {tys : xT} {ad : Nat → Nat} {cB : Nat → ClassId} {rf : Nat → Int64} {tf bf fa fb fc fr : Nat → Int32} {ng : Int32} (M : md w0 ws tys ad cB rf tf bf fa fb fc fr ng) : ws[11]? = some (ad 1, .inl (cB 0, 8, .inr (.inl rf))) := M.2.1
theorem md_a2 {w0 ws : va_W} {tys : xT} {ad : Nat → Nat} {cB : Nat → ClassId} {rf : Nat → Int64} {tf bf fa fb fc fr : Nat → Int32} {ng : Int32} (M : md w0 ws tys ad cB rf tf bf fa fb fc fr ng) : ws[12]? = some (ad 2, .inl (cB 1, 160, .inl tf)) := M.2.2.1
theorem md_a3 {w0 ws : va_W} {tys : xT} {ad : Nat → Nat} {cB : Nat → ClassId} {rf : Nat → Int64} {tf bf fa fb fc fr : Nat → Int32} {ng : Int32} (M : md w0 ws tys ad cB rf tf bf fa fb fc fr ng) : ws[13]? = some (ad 3, .inl (cB 2, 4, .inl bf)) := M.2.2.2.1
theorem md_a4 {w0 ws : va_W} {tys : xT} {ad : Nat → Nat} {cB : Nat → ClassId} {rf : Nat → Int64} {tf bf fa fb fc fr : Nat → Int32} {ng : Int32} (M : md w0 ws tys ad cB rf tf bf fa fb fc fr ng) : ws[14]? = some (ad 4, .inl (cB 3, 80, .inl fa)) := M.2.2.2.2.1
theorem md_a5 {w0 ws : va_W} {tys : xT} {ad : Nat → Nat} {cB : Nat → ClassId} {rf : Nat → Int64} {tf bf fa fb fc fr : Nat → Int32} {ng : Int32} (M : md w0 ws tys ad cB rf tf bf fa fb fc fr ng) : ws[15]? = some (ad 5, .inl (cB 4, 80, .inl fb)) := M.2.2.2.2.2.1
theorem md_a6 {w0 ws : va_W} {tys : xT} {ad : Nat → Nat} {cB : Nat → ClassId} {rf : Nat → Int64} {tf bf fa fb fc fr : Nat → Int32} {ng : Int32} (M : md w0 ws tys ad cB rf tf bf fa fb fc fr ng) : ws[16]? = some (ad 6, .inl (cB 5, 80, .inl fc)) := M.2.2.2.2.2.2.1
theorem md_a7 {w0 ws : va_W} {tys : xT} {ad : Nat → Nat} {cB : Nat → ClassId} {rf : Nat → Int64} {tf bf fa fb fc fr : Nat → Int32} {ng : Int32} (M : md w0 ws tys ad cB rf tf bf fa fb fc fr ng) : ws[17]? = some (ad 7, .inl (cB 6, 80, .inl fr)) := M.2.2.2.2.2.2.2.1
theorem md_w {w0 ws : va_W} {tys : xT} {ad : Nat → Nat} {cB : Nat → ClassId} {rf : Nat → Int64} {tf bf fa fb fc fr : Nat → Int32} {ng : Int32} (M : md w0 ws tys ad cB rf tf bf fa fb fc fr ng) : ∀ j, j < 10 → ws[j]? = w0[j]? := M.2.2.2.2.2.2.2.2.1
theorem md_t0 {w0 ws : va_W} {tys : xT} {ad : Nat → Nat} {cB : Nat → ClassId} {rf : Nat → Int64} {tf bf fa fb fc fr : Nat → Int32} {ng : Int32} (M : md w0 ws tys ad cB rf tf bf fa fb fc fr ng) : tys[2]? = some (cB 0, .long) := M.2.2.2.2.2.2.2.2.2.1
theorem md_t1 {w0 ws : va_W} {tys : xT} {ad : Nat → Nat} {cB : Nat → ClassId} {rf : Nat → Int64} {tf bf fa fb fc fr : Nat → Int32} {ng : Int32} (M : md w0 ws tys ad cB rf tf bf fa fb fc fr ng) : tys[3]? = some (cB 1, .int) := M.2.2.2.2.2.2.2.2.2.2.1
theorem md_t2 {w0 ws : va_W} {tys : xT} {ad : Nat → Nat} {cB : Nat → ClassId} {rf : Nat → Int64} {tf bf fa fb fc fr : Nat → Int32} {ng : Int32} (M : md w0 ws tys ad cB rf tf bf fa fb fc fr ng) : tys[4]? = some (cB 2, .boolean) := M.2.2.2.2.2.2.2.2.2.2.2.1
theorem md_t3 {w0 ws : va_W} {tys : xT} {ad : Nat → Nat} {cB : Nat → ClassId} {rf : Nat → Int64} {tf bf fa fb fc fr : Nat → Int32} {ng : Int32} (M : md w0 ws tys ad cB rf tf bf fa fb fc fr ng) : tys[5]? = some (cB 3, .int) := M.2.2.2.2.2.2.2.2.2.2.2.2.1
theorem md_t4 {w0 ws : va_W} {tys : xT} {ad : Nat → Nat} {cB : Nat → ClassId} {rf : Nat → Int64} {tf bf fa fb fc fr : Nat → Int32} {ng : Int32} (M : md w0 ws tys ad cB rf tf bf fa fb fc fr ng) : tys[6]? = some (cB 4, .int) := M.2.2.2.2.2.2.2.2.2.2.2.2.2.1
theorem md_t5 {w0 ws : va_W} {tys : xT} {ad : Nat → Nat} {cB : Nat → ClassId} {rf : Nat → Int64} {tf bf fa fb fc fr : Nat → Int32} {ng : Int32} (M : md w0 ws tys ad cB rf tf bf fa fb fc fr ng) : tys[7]? = some (cB 5, .int) := M.2.2.2.2.2.2.2.2.2.2.2.2.2.2.1
theorem md_t6 {w0 ws : va_W} {tys : xT} {ad : Nat → Nat} {cB : Nat → ClassId} {rf : Nat → Int64} {tf bf fa fb fc fr : Nat → Int32} {ng : Int32} (M : md w0 ws tys ad cB rf tf bf fa fb fc fr ng) : tys[8]? = some (cB 6, .int) := M.2.2.2.2.2.2.2.2.2.2.2.2.2.2.2
theorem md_sng {w0 ws ws1 : va_W} {tys : xT} {ad : Nat → Nat} {cB : Nat → ClassId} {rf : Nat → Int64} {tf bf fa fb fc fr : Nat → Int32} {ng : Int32} (M : md w0 ws tys ad cB rf tf bf fa fb fc fr ng) {ng1 : Int32} (h : ws1 = ws.set 10 (ad 0, .inr (ciM, [.ref (ad 1), .ref (ad 2), .ref (ad 3), .ref (ad 4), .ref (ad 5), .ref (ad 6), .ref (ad 7), .int ng1]))) : md w0 ws1 tys ad cB rf tf bf fa fb fc fr ng1 := by
  subst h
  obtain ⟨h0, h1, h2, h3, h4, h5, h6, h7, hw, hy⟩ := M
  refine ⟨sgS h0, by rw [sgN (by decide)]; exact h1, by rw [sgN (by decide)]; exact h2, by rw [sgN (by decide)]; exact h3, by rw [sgN (by decide)]; exact h4, by rw [sgN (by decide)]; exact h5, by rw [sgN (by decide)]; exact h6, by rw [sgN (by decide)]; exact h7, fun j hj => ?_, hy⟩
  rw [sgN (by omega)]; exact hw j hj
theorem md_srf {w0 ws ws1 : va_W} {tys : xT} {ad : Nat → Nat} {cB : Nat → ClassId} {rf : Nat → Int64} {tf bf fa fb fc fr : Nat → Int32} {ng : Int32} (M : md w0 ws tys ad cB rf tf bf fa fb fc fr ng) {rf1 : Nat → Int64} (h : ws1 = ws.set 11 (ad 1, .inl (cB 0, 8, .inr (.inl rf1)))) : md w0 ws1 tys ad cB rf1 tf bf fa fb fc fr ng := by
  subst h
  obtain ⟨h0, h1, h2, h3, h4, h5, h6, h7, hw, hy⟩ := M
  refine ⟨by rw [sgN (by decide)]; exact h0, sgS h1, by rw [sgN (by decide)]; exact h2, by rw [sgN (by decide)]; exact h3, by rw [sgN (by decide)]; exact h4, by rw [sgN (by decide)]; exact h5, by rw [sgN (by decide)]; exact h6, by rw [sgN (by decide)]; exact h7, fun j hj => ?_, hy⟩
  rw [sgN (by omega)]; exact hw j hj
theorem md_stf {w0 ws ws1 : va_W} {tys : xT} {ad : Nat → Nat} {cB : Nat → ClassId} {rf : Nat → Int64} {tf bf fa fb fc fr : Nat → Int32} {ng : Int32} (M : md w0 ws tys ad cB rf tf bf fa fb fc fr ng) {tf1 : Nat → Int32} (h : ws1 = ws.set 12 (ad 2, .inl (cB 1, 160, .inl tf1))) : md w0 ws1 tys ad cB rf tf1 bf fa fb fc fr ng := by
  subst h
  obtain ⟨h0, h1, h2, h3, h4, h5, h6, h7, hw, hy⟩ := M
  refine ⟨by rw [sgN (by decide)]; exact h0, by rw [sgN (by decide)]; exact h1, sgS h2, by rw [sgN (by decide)]; exact h3, by rw [sgN (by decide)]; exact h4, by rw [sgN (by decide)]; exact h5, by rw [sgN (by decide)]; exact h6, by rw [sgN (by decide)]; exact h7, fun j hj => ?_, hy⟩
  rw [sgN (by omega)]; exact hw j hj
theorem md_sbf {w0 ws ws1 : va_W} {tys : xT} {ad : Nat → Nat} {cB : Nat → ClassId} {rf : Nat → Int64} {tf bf fa fb fc fr : Nat → Int32} {ng : Int32} (M : md w0 ws tys ad cB rf tf bf fa fb fc fr ng) {bf1 : Nat → Int32} (h : ws1 = ws.set 13 (ad 3, .inl (cB 2, 4, .inl bf1))) : md w0 ws1 tys ad cB rf tf bf1 fa fb fc fr ng := by
  subst h
  obtain ⟨h0, h1, h2, h3, h4, h5, h6, h7, hw, hy⟩ := M
  refine ⟨by rw [sgN (by decide)]; exact h0, by rw [sgN (by decide)]; exact h1, by rw [sgN (by decide)]; exact h2, sgS h3, by rw [sgN (by decide)]; exact h4, by rw [sgN (by decide)]; exact h5, by rw [sgN (by decide)]; exact h6, by rw [sgN (by decide)]; exact h7, fun j hj => ?_, hy⟩
  rw [sgN (by omega)]; exact hw j hj
theorem md_sfa {w0 ws ws1 : va_W} {tys : xT} {ad : Nat → Nat} {cB : Nat → ClassId} {rf : Nat → Int64} {tf bf fa fb fc fr : Nat → Int32} {ng : Int32} (M : md w0 ws tys ad cB rf tf bf fa fb fc fr ng) {fa1 : Nat → Int32} (h : ws1 = ws.set 14 (ad 4, .inl (cB 3, 80, .inl fa1))) : md w0 ws1 tys ad cB rf tf bf fa1 fb fc fr ng := by
  subst h
  obtain ⟨h0, h1, h2, h3, h4, h5, h6, h7, hw, hy⟩ := M
  refine ⟨by rw [sgN (by decide)]; exact h0, by rw [sgN (by decide)]; exact h1, by rw [sgN (by decide)]; exact h2, by rw [sgN (by decide)]; exact h3, sgS h4, by rw [sgN (by decide)]; exact h5, by rw [sgN (by decide)]; exact h6, by rw [sgN (by decide)]; exact h7, fun j hj => ?_, hy⟩
  rw [sgN (by omega)]; exact hw j hj
theorem md_sfb {w0 ws ws1 : va_W} {tys : xT} {ad : Nat → Nat} {cB : Nat → ClassId} {rf : Nat → Int64} {tf bf fa fb fc fr : Nat → Int32} {ng : Int32} (M : md w0 ws tys ad cB rf tf bf fa fb fc fr ng) {fb1 : Nat → Int32} (h : ws1 = ws.set 15 (ad 5, .inl (cB 4, 80, .inl fb1))) : md w0 ws1 tys ad cB rf tf bf fa fb1 fc fr ng := by
  subst h
  obtain ⟨h0, h1, h2, h3, h4, h5, h6, h7, hw, hy⟩ := M
  refine ⟨by rw [sgN (by decide)]; exact h0, by rw [sgN (by decide)]; exact h1, by rw [sgN (by decide)]; exact h2, by rw [sgN (by decide)]; exact h3, by rw [sgN (by decide)]; exact h4, sgS h5, by rw [sgN (by decide)]; exact h6, by rw [sgN (by decide)]; exact h7, fun j hj => ?_, hy⟩
  rw [sgN (by omega)]; exact hw j hj
theorem md_sfc {w0 ws ws1 : va_W} {tys : xT} {ad : Nat → Nat} {cB : Nat → ClassId} {rf : Nat → Int64} {tf bf fa fb fc fr : Nat → Int32} {ng : Int32} (M : md w0 ws tys ad cB rf tf bf fa fb fc fr ng) {fc1 : Nat → Int32} (h : ws1 = ws.set 16 (ad 6, .inl (cB 5, 80, .inl fc1))) : md w0 ws1 tys ad cB rf tf bf fa fb fc1 fr ng := by
  subst h
  obtain ⟨h0, h1, h2, h3, h4, h5, h6, h7, hw, hy⟩ := M
  refine ⟨by rw [sgN (by decide)]; exact h0, by rw [sgN (by decide)]; exact h1, by rw [sgN (by decide)]; exact h2, by rw [sgN (by decide)]; exact h3, by rw [sgN (by decide)]; exact h4, by rw [sgN (by decide)]; exact h5, sgS h6, by rw [sgN (by decide)]; exact h7, fun j hj => ?_, hy⟩
  rw [sgN (by omega)]; exact hw j hj
theorem md_sfr {w0 ws ws1 : va_W} {tys : xT} {ad : Nat → Nat} {cB : Nat → ClassId} {rf : Nat → Int64} {tf bf fa fb fc fr : Nat → Int32} {ng : Int32} (M : md w0 ws tys ad cB rf tf bf fa fb fc fr ng) {fr1 : Nat → Int32} (h : ws1 = ws.set 17 (ad 7, .inl (cB 6, 80, .inl fr1))) : md w0 ws1 tys ad cB rf tf bf fa fb fc fr1 ng := by
  subst h
  obtain ⟨h0, h1, h2, h3, h4, h5, h6, h7, hw, hy⟩ := M
  refine ⟨by rw [sgN (by decide)]; exact h0, by rw [sgN (by decide)]; exact h1, by rw [sgN (by decide)]; exact h2, by rw [sgN (by decide)]; exact h3, by rw [sgN (by decide)]; exact h4, by rw [sgN (by decide)]; exact h5, by rw [sgN (by decide)]; exact h6, sgS h7, fun j hj => ?_, hy⟩
  rw [sgN (by omega)]; exact hw j hj
theorem in160 {t k : Nat} (ht : t < 4) (hk : k < 40) : 40 * t + k < 160 := by omega
/-! products and quotients by digits -/
theorem dg_hi_add (T r i k : Nat) (h : k < i) : (T + 10 ^ i * r) / 10 ^ k % 10 = T / 10 ^ k % 10 := by
  have e : 10 ^ i * r = 10 ^ k * (10 * (10 ^ (i - k - 1) * r)) := by
    rw [← Nat.mul_assoc 10, ← Nat.mul_assoc (10 ^ k), ← Nat.pow_succ', ← Nat.pow_add, show k + (i - k - 1 + 1) = i by omega]
  rw [e, Nat.add_mul_div_left _ _ (p10 k)]
  omega
/-- what c holds behind j places of the inner loop -/
def mT (C0 ai y i j : Nat) : Nat := C0 + 10 ^ i * (ai * (y % 10 ^ j))
theorem mT_0 (C0 ai y i : Nat) : mT C0 ai y i 0 = C0 := by simp [mT, Nat.mod_one]
theorem mT_succ (C0 ai y i j : Nat) : mT C0 ai y i (j + 1) = mT C0 ai y i j + 10 ^ (i + j) * (ai * (y / 10 ^ j % 10)) := by
  unfold mT
  rw [pd_mod, Nat.mul_add, Nat.mul_add, Nat.pow_add, Nat.add_assoc, Nat.mul_left_comm ai (10 ^ j), Nat.mul_assoc]
def mC (C0 ai y i j : Nat) : Nat := mT C0 ai y i j / 10 ^ (i + j) - C0 / 10 ^ (i + j)
theorem mC_eq (C0 ai y i j : Nat) : mT C0 ai y i j / 10 ^ (i + j) = C0 / 10 ^ (i + j) + mC C0 ai y i j := by
  have : C0 / 10 ^ (i + j) ≤ mT C0 ai y i j / 10 ^ (i + j) := Nat.div_le_div_right (by unfold mT; omega)
  unfold mC
  omega
theorem mC_0 (C0 ai y i : Nat) : mC C0 ai y i 0 = 0 := by unfold mC; rw [mT_0]; omega
theorem mC_le {C0 ai y i j : Nat} (ha : ai < 10) : mC C0 ai y i j ≤ 9 := by
  have h1 : mT C0 ai y i j ≤ C0 + 10 ^ (i + j) * 9 := by
    unfold mT
    have a : ai * (y % 10 ^ j) ≤ 9 * 10 ^ j := Nat.mul_le_mul (by omega) (Nat.le_of_lt (Nat.mod_lt _ (p10 j)))
    have b := Nat.mul_le_mul_left (10 ^ i) a
    rw [Nat.pow_add, Nat.mul_assoc, Nat.mul_comm (10 ^ j) 9]
    omega
  have h2 := Nat.div_le_div_right (c := 10 ^ (i + j)) h1
  rw [Nat.add_mul_div_left _ _ (p10 _)] at h2
  unfold mC
  omega
theorem mS {C0 ai y i j : Nat} : (C0 / 10 ^ (i + j) % 10 + ai * (y / 10 ^ j % 10) + mC C0 ai y i j) % 10 = mT C0 ai y i (j + 1) / 10 ^ (i + j) % 10 ∧ (C0 / 10 ^ (i + j) % 10 + ai * (y / 10 ^ j % 10) + mC C0 ai y i j) / 10 = mC C0 ai y i (j + 1) := by
  have e := mC_eq C0 ai y i j
  have e2 : mT C0 ai y i (j + 1) / 10 ^ (i + j) = C0 / 10 ^ (i + j) + mC C0 ai y i j + ai * (y / 10 ^ j % 10) := by
    rw [mT_succ, Nat.add_mul_div_left _ _ (p10 _), e]
  have e3 : mC C0 ai y i (j + 1) = mT C0 ai y i (j + 1) / 10 ^ (i + j) / 10 - C0 / 10 ^ (i + j) / 10 := by
    unfold mC
    rw [Nat.div_div_eq_div_mul, Nat.div_div_eq_div_mul, ← Nat.pow_succ]
    rfl
  rw [e3, e2]
  generalize ai * (y / 10 ^ j % 10) = z
  generalize C0 / 10 ^ (i + j) = q
  generalize mC C0 ai y i j = r
  omega
theorem mT_lo {C0 ai y i j k : Nat} (h : k < i + j) : mT C0 ai y i (j + 1) / 10 ^ k % 10 = mT C0 ai y i j / 10 ^ k % 10 := by
  rw [mT_succ, dg_hi_add _ _ _ _ h]
/-- at the inner loop's end -/
theorem mT_end {x y i j : Nat} (hx : x < 10 ^ 40) (hy : y < 10 ^ 40) (h : 80 ≤ i + j ∨ x / 10 ^ i % 10 = 0) : mT (x % 10 ^ i * y) (x / 10 ^ i % 10) y i j = x % 10 ^ (i + 1) * y := by
  have e : x % 10 ^ (i + 1) * y = x % 10 ^ i * y + 10 ^ i * (x / 10 ^ i % 10 * y) := by
    rw [pd_mod, Nat.add_mul, Nat.mul_assoc]
  rw [e]
  unfold mT
  by_cases q : x / 10 ^ i % 10 = 0
  · rw [q, Nat.zero_mul, Nat.zero_mul]
  · have hi : i < 40 := by
      rcases Nat.lt_or_ge i 40 with z | z
      · exact z
      · exfalso
        apply q
        have : 10 ^ 40 ≤ 10 ^ i := Nat.pow_le_pow_right (by decide) z
        rw [Nat.div_eq_of_lt (by omega)]
    have hj : 40 ≤ j := by omega
    have : 10 ^ 40 ≤ 10 ^ j := Nat.pow_le_pow_right (by decide) hj
    rw [Nat.mod_eq_of_lt (show y < 10 ^ j by omega)]
/-- three stretches of digits -/
theorem d3_lo {Q z r u j : Nat} (h : j < u) : (Q * 10 ^ (u + 1) + z * 10 ^ u + r) / 10 ^ j % 10 = r / 10 ^ j % 10 := by
  rw [show Q * 10 ^ (u + 1) + z * 10 ^ u + r = r + 10 ^ u * (Q * 10 + z) by rw [Nat.mul_add, Nat.pow_succ, Nat.mul_comm (10 ^ u) (Q * 10), Nat.mul_assoc Q 10, Nat.mul_comm 10 (10 ^ u), Nat.mul_comm (10 ^ u) z]; omega]
  exact dg_hi_add _ _ _ _ h
theorem d3_at {Q z r u : Nat} (hz : z < 10) (hr : r < 10 ^ u) : (Q * 10 ^ (u + 1) + z * 10 ^ u + r) / 10 ^ u % 10 = z := by
  rw [show Q * 10 ^ (u + 1) + z * 10 ^ u + r = 10 ^ u * (Q * 10 + z) + r by rw [Nat.mul_add, Nat.pow_succ, Nat.mul_comm (10 ^ u) (Q * 10), Nat.mul_assoc Q 10, Nat.mul_comm 10 (10 ^ u), Nat.mul_comm (10 ^ u) z], Nat.mul_add_div (p10 u), Nat.div_eq_of_lt hr]
  omega
theorem d3_hi {Q z r u j : Nat} (hz : z < 10) (hr : r < 10 ^ u) (h : u < j) : (Q * 10 ^ (u + 1) + z * 10 ^ u + r) / 10 ^ j % 10 = Q / 10 ^ (j - (u + 1)) % 10 := by
  have e : (Q * 10 ^ (u + 1) + z * 10 ^ u + r) / 10 ^ (u + 1) = Q := by
    have h1 : z * 10 ^ u + r < 10 ^ (u + 1) := by
      have : z * 10 ^ u ≤ 9 * 10 ^ u := Nat.mul_le_mul_right _ (by omega)
      rw [Nat.pow_succ]
      omega
    rw [Nat.add_assoc, Nat.mul_comm Q, Nat.mul_add_div (p10 _), Nat.div_eq_of_lt h1]
    omega
  have e2 : 10 ^ j = 10 ^ (u + 1) * 10 ^ (j - (u + 1)) := by rw [← Nat.pow_add, show u + 1 + (j - (u + 1)) = j by omega]
  rw [e2, ← Nat.div_div_eq_div_mul, e]
/-- what a holds when u places are left to divide -/
def qV (x y u : Nat) : Nat := x / 10 ^ u / y * 10 ^ u + x % 10 ^ u
theorem qV_up {x y u : Nat} : qV x y (u + 1) = x / 10 ^ (u + 1) / y * 10 ^ (u + 1) + x / 10 ^ u % 10 * 10 ^ u + x % 10 ^ u := by
  unfold qV
  rw [pd_mod, Nat.mul_comm (10 ^ u)]
  omega
theorem q_step {x y u : Nat} (hy : 0 < y) : x / 10 ^ u / y = x / 10 ^ (u + 1) / y * 10 + (x / 10 ^ (u + 1) % y * 10 + x / 10 ^ u % 10) / y ∧ x / 10 ^ u % y = (x / 10 ^ (u + 1) % y * 10 + x / 10 ^ u % 10) % y := by
  have e : x / 10 ^ u = y * (x / 10 ^ (u + 1) / y * 10) + (x / 10 ^ (u + 1) % y * 10 + x / 10 ^ u % 10) := by
    have a : x / 10 ^ (u + 1) = x / 10 ^ u / 10 := by rw [Nat.pow_succ, Nat.div_div_eq_div_mul]
    have b := Nat.div_add_mod (x / 10 ^ (u + 1)) y
    have c : y * (x / 10 ^ (u + 1) / y * 10) = y * (x / 10 ^ (u + 1) / y) * 10 := (Nat.mul_assoc _ _ _).symm
    rw [c]
    rw [a] at b ⊢
    omega
  constructor
  · rw [e, Nat.mul_add_div hy]
    rw [← e]
  · rw [e, Nat.mul_add_mod]
    rw [← e]
theorem qV_dn {x y u : Nat} (hy : 0 < y) : qV x y u = x / 10 ^ (u + 1) / y * 10 ^ (u + 1) + (x / 10 ^ (u + 1) % y * 10 + x / 10 ^ u % 10) / y * 10 ^ u + x % 10 ^ u := by
  unfold qV
  rw [(q_step hy).1, Nat.add_mul, Nat.mul_assoc, Nat.pow_succ, Nat.mul_comm 10]
theorem q_lt {R e y : Nat} (hR : R < y) (he : e < 10) : (R * 10 + e) / y < 10 := by
  rw [Nat.div_lt_iff_lt_mul (by omega)]
  omega
theorem qV_80 {x y : Nat} (hx : x < 10 ^ 80) : qV x y 80 = x := by
  unfold qV
  rw [Nat.div_eq_of_lt hx, Nat.mod_eq_of_lt hx, Nat.zero_div, Nat.zero_mul, Nat.zero_add]
theorem qV_0 (x y : Nat) : qV x y 0 = x / y := by simp [qV, Nat.mod_one]
theorem dg_qV {f : Nat → Int32} {x y u : Nat} (hy : 0 < y) (h : dg f (qV x y (u + 1))) : dg (upd f u (nI ((x / 10 ^ (u + 1) % y * 10 + x / 10 ^ u % 10) / y))) (qV x y u) := by
  intro j hj
  have hz := q_lt (Nat.mod_lt (x / 10 ^ (u + 1)) hy) (d9 x u)
  have hr := Nat.mod_lt x (p10 u)
  rw [qV_dn hy]
  rcases Nat.lt_trichotomy j u with q | q | q
  · rw [up_n (by omega), h j hj, qV_up, d3_lo q, d3_lo q]
  · subst q
    rw [up_s, d3_at hz hr]
  · rw [up_n (by omega), h j hj, qV_up, d3_hi (d9 x u) hr q, d3_hi hz hr q]
/-- rest, moved up by a place, and a digit below -/
theorem dg_sh {f g : Nat → Int32} {R e : Nat} (h : dg f R) (he : e < 10) (h0 : g 0 = nI e) (hs : ∀ j, 1 ≤ j → j < 80 → g j = f (j - 1)) : dg g (R * 10 + e) := by
  intro j hj
  rcases Nat.eq_zero_or_pos j with q | q
  · subst q
    rw [h0, Nat.pow_zero, Nat.div_one, show (R * 10 + e) % 10 = e by omega]
  · rw [hs j q hj, h (j - 1) (by omega)]
    obtain ⟨i, rfl⟩ : ∃ i, j = i + 1 := ⟨j - 1, by omega⟩
    rw [Nat.add_sub_cancel, Nat.pow_succ, Nat.mul_comm (10 ^ i), ← Nat.div_div_eq_div_mul, show (R * 10 + e) / 10 = R by omega]
