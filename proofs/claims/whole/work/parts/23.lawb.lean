/-! THE CLAIM OUT OF ONE WALK OF THE LAW'S BODY. Your part is whole_start (and what it stands on); all else here is the same for every law, but numbers. -/
def R_law : String := "ExactDeskLaw"
def lw_P (b : Addr) (xs : List Int32) (args : Array Value) (s : State) : Prop := args = #[.ref b] ∧ s.IntsAt b xs ∧ xs.length ≤ 3584 ∧ (Jvm.Cond.and given_1 narrow_1).before args s = true
def lw_Q (_ : Array Value) (s : State) (o : Outcome) (t : State) : Prop := o = .returned (some (.int 1)) ∧ Framed s o t [] 600000 7302250
def lw_Z (below : List Frame) (a : Array Value) (s : State) : State → Prop := fun t => ∃ o, t.status = .running ∧ Ended t below o ∧ lw_Q a s o t
/-- the law's own end, with 1 on the stack, nothing written that was there before, its room as the claim has it -/
theorem lw_ret {p : Program} {l : Launch} {e : Env} {s : State} {m : MethodId} {below : List Frame} {meth : Method} {c : Code} {b : Nat} (hx : p.tables.exec = Jvm.exec) (hb : c.code = code) (hr : meth.sig.returnType = ret) (hlocks : meth.locks = false) {pc : Nat} {H : Heap} {ls : Array Slot} (hdg : decode code pc = .ok (.ireturn, 1)) : W p l e room_1 s m #[Value.ref b] below meth c H [] 600000 7302250 (lw_Z below #[Value.ref b] s) (F0 m pc ls [.int 1]) := by
  intro T hT X
  obtain ⟨fs, hret, hrun, hended, hW, hframe⟩ := X.leave (v := some (.int 1)) (hlocks := hlocks) (fun h => by rw [hr] at h; cases h)
  have hmeth' : T.vm.method? m = some meth := X.method'
  refine ⟨T.setFrames fs, ?_, .returned (some (.int 1)), hrun, hended, rfl, ⟨_, rfl⟩, hW, hframe⟩
  jvm_step X.here [X.here.top, hx, hb, hdg, hmeth', hr, ret, narrow_b1]
  (try refine ⟨rfl, ?_⟩); (try refine ⟨rfl, ?_⟩)
  first | (intro acts; rw [hret _ acts rfl rfl rfl]) | rw [hret _ _ rfl rfl rfl]
  exact Steps.refl _
/-- what holds at the law's entry: the machine, the code, the tables' words (any of lw_tbl by 'hts w (by decide +kernel)'), the script of L ints xs at the cell b, what the Statement gives of the start (any of its parts by flat_of_before) -/
def lw_At (p : Program) (s : State) (m : MethodId) (meth : Method) (c : Code) (b L : Nat) (xs : Nat → Int32) : Prop :=
  p.tables.exec = Jvm.exec ∧ c.code = code ∧ meth.sig.returnType = ret ∧ c.maxLocals = 4 ∧ s.vm.findClass R_law = some m.cls ∧ (∀ w ∈ lw_tbl, w.before #[Value.ref b] s = true) ∧ va_X b L xs s s.heap ∧ b < s.heap.size ∧ meth.locks = false ∧ (Jvm.Cond.and given_1 narrow_1).before #[Value.ref b] s = true
/-! class and reference side by side -/
theorem len10 {l : va_W} (h : l.length = 10) : ∃ c0 c1 c2 c3 c4 c5 c6 c7 c8 c9, l = [c0, c1, c2, c3, c4, c5, c6, c7, c8, c9] := by
  match l, h with
  | [c0, c1, c2, c3, c4, c5, c6, c7, c8, c9], _ => exact ⟨c0, c1, c2, c3, c4, c5, c6, c7, c8, c9, rfl⟩
theorem xd_move {w0 ws ws1 : va_W} {tys tys1 : xT} {ad : Nat → Nat} {cA : Nat → ClassId} {g : Nat → Option Nat} {rf : Nat → Int64} {tv : Nat → Int} {o : Int} (X : xd w0 ws tys ad cA g rf tv o) (h : ∀ j, j < 10 → ws1[j]? = ws[j]?) (t0 : tys1[0]? = some (cA 0, .long)) (t1 : tys1[1]? = some (cA 1, .object RWide)) : xd ws1 ws1 tys1 ad cA g rf tv o := by
  obtain ⟨h0, h1, h2, h7, h8, h9, ht, hr, hy⟩ := X
  refine ⟨by rw [h 0 (by decide)]; exact h0, by rw [h 1 (by decide)]; exact h1, by rw [h 2 (by decide)]; exact h2, by rw [h 7 (by decide)]; exact h7, by rw [h 8 (by decide)]; exact h8, by rw [h 9 (by decide)]; exact h9, fun j hj => ?_, fun j hj => rfl, t0, t1⟩
  rw [h (3 + j) (by omega)]
  exact ht j hj
theorem mdS_move {w0 ws ws1 : va_W} {tys : xT} {ad : Nat → Nat} {cB : Nat → ClassId} {S : sS} (Y : mdS w0 ws tys ad cB S) (h : ∀ j, 10 ≤ j → ws1[j]? = ws[j]?) : mdS ws1 ws1 tys ad cB S := by
  obtain ⟨tf, bf, fa, fb, fc, fr, ng, ⟨h0, h1, h2, h3, h4, h5, h6, h7, hw, hy⟩, T⟩ := Y
  exact ⟨tf, bf, fa, fb, fc, fr, ng, ⟨by rw [h 10 (by decide)]; exact h0, by rw [h 11 (by decide)]; exact h1, by rw [h 12 (by decide)]; exact h2, by rw [h 13 (by decide)]; exact h3, by rw [h 14 (by decide)]; exact h4, by rw [h 15 (by decide)]; exact h5, by rw [h 16 (by decide)]; exact h6, by rw [h 17 (by decide)]; exact h7, fun j _ => rfl, hy⟩, T⟩
theorem mdS_w {w0 ws : va_W} {tys : xT} {ad : Nat → Nat} {cB : Nat → ClassId} {S : sS} (Y : mdS w0 ws tys ad cB S) : ∀ j, j < 10 → ws[j]? = w0[j]? := by
  obtain ⟨tf, bf, fa, fb, fc, fr, ng, M, T⟩ := Y
  exact md_w M
theorem mdS_re {w0 ws : va_W} {tys : xT} {ad : Nat → Nat} {cB : Nat → ClassId} {S : sS} (Y : mdS w0 ws tys ad cB S) : mdS ws ws tys ad cB S := mdS_move Y (fun _ _ => rfl)
theorem digits_u {S : sS} {t a b : Int32} (ha : sp_digits S t a) (hb : sp_digits S t b) : a = b := by
  unfold sp_digits at ha hb
  by_cases h : okT t
  · rw [if_pos h] at ha hb
    obtain ⟨L, l1, l2, l3⟩ := ha
    obtain ⟨K, k1, k2, k3⟩ := hb
    rw [l3, k3, sLen_u l1 k1]
  · rw [if_neg h] at ha hb
    rw [ha, hb]
theorem lin {x3 : Int32} {i k L : Nat} (ex : x3 = nI i) (h : i + 7 ≤ L) (hk : k < 7) (hL : L ≤ 3584) : vp_in (x3 + nI k) L := by
  rw [ex, nI_add]
  exact vp_in_nI (by omega) (by omega)
theorem lin0 {x3 : Int32} {i L : Nat} (ex : x3 = nI i) (h : i + 7 ≤ L) (hL : L ≤ 3584) : vp_in x3 L := by
  rw [ex]
  exact vp_in_nI (by omega) (by omega)
theorem l7 {x3 : Int32} {i L : Nat} (ex : x3 = nI i) (hi : i ≤ L) (hL : L ≤ 3584) (c : ¬ Int32.ofNat L - 7 < x3) : i + 7 ≤ L := by
  rw [ex, Int32.lt_iff_toInt_lt, nI_toInt (by omega)] at c
  have q : (nI L - nI 7).toInt = (L : Int) - (7 : Nat) := pk_sub_toInt (by omega) (by decide)
  have q2 : (Int32.ofNat L - 7).toInt = (L : Int) - (7 : Nat) := q
  rw [q2] at c
  omega
