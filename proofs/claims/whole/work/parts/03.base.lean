abbrev ciW : Nat := 0
abbrev ciE : Nat := 1
abbrev ciM : Nat := 2
abbrev RWide : String := RX0
/-! contracts over a whole world: ws is any list of cells; what a method needs of it is said by index -/
abbrev xT : Type := List (ClassId × FieldType)
def xb_P (D : va_G) (tys : xT) (ws : va_W) (sz : Nat) (U : State) : Prop := U.heap.size = sz ∧ va_P D vwCl ws U.heap ∧ va_K D vwCl tys U ∧ va_D (fun _ => True) ws
def xb_B (D : va_G) (tys : xT) (A : Nat → Prop) (ws : va_W) (t : State) : Prop := va_P D vwCl ws t.heap ∧ va_K D vwCl tys t ∧ va_D A ws
abbrev xQ : Type := (Nat → Prop) → Array Value → State → Outcome → State → Prop
def xQi (D : va_G) (tys : xT) (post : Int32 → va_W → Prop) : xQ := fun A => va_Qi post (xb_B D tys A) A
def xQl (D : va_G) (tys : xT) (post : Int64 → va_W → Prop) : xQ := fun A => va_Ql post (xb_B D tys A) A
def xQv (D : va_G) (tys : xT) (post : va_W → Prop) : xQ := fun A => va_Qv post (xb_B D tys A) A
/-- a method's contract over the world ws -/
def xM (l : Launch) (y : MethodName) (wsy : List Cond) (rm : Room) (D : va_G) (tys : xT) (ws : va_W) (sz : Nat) (avs : List Value) (QQ : xQ) (mc ms : Nat) : Prop :=
  Met l y wsy rm (va_Pc avs (xb_P D tys ws sz)) (QQ (va_A ws sz)) mc ms (va_A ws sz)
theorem xb_blind {D : va_G} {tys : xT} {ws : va_W} {sz : Nat} {av : List Value} : FrameBlind (va_Pc av (xb_P D tys ws sz)) := fun a U g mk q => by
  obtain ⟨q0, q1, qP, qK, qD⟩ := q
  exact ⟨q0, q1, qP, va_K.moved (u := U) (U := U.calling g mk a) (Vm.Alike.refl U.vm) qK, qD⟩
theorem xb_fr {A : Nat → Prop} {ws : va_W} {H0 H : Heap} {locs : List Loc} (hD : va_D A ws) (hS : va_S A H0 H locs) (hA : ∀ q : Nat, H0.size ≤ q → A q) : ∀ q, va_A ws H.size q → A q := fun q h => by
  rcases h with ⟨k, e, h⟩ | h
  · exact hD.2 k (q, e) h
  · exact hA q (Nat.le_trans hS.1 h)
section XB
variable {p : Program} {l : Launch} {e : Env} {R : Room} {s : State} {m : MethodId} {args : Array Value} {below : List Frame} {meth : Method} {c : Code} {H : Heap} {locs : List Loc} {cells slots : Nat} {Q : State → Prop}
variable {D : va_G} {tys : xT} {ws : va_W} {A : Nat → Prop} {y : MethodName} {wsy : List Cond} {rm : Room} {mc ms : Nat} {avs : List Value}
/-- the entry of a method -/
theorem xb_m {sz : Nat} {QQ : xQ} {cc : ByteArray} {maxL : Nat} {ret : Option FieldType} {ws' : List Cond} (hy : plainName y.cls = true) (hw : wsy = Cond.code y cc maxL ret :: ws') (hn : (lg_sl avs).length ≤ maxL)
    (body : ∀ (p : Program) (e : Env) (s : State) (m : MethodId) (below : List Frame) (meth : Method) (c : Code) (A : Nat → Prop) (ls : Array Slot), p.tables.exec = Jvm.exec → c.code = cc → meth.sig.returnType = ret → c.maxLocals = maxL → s.vm.findClass y.cls = some m.cls → (∀ w ∈ wsy, w.before avs.toArray s = true) → meth.locks = false → meth.name = y.name → (∀ q : Nat, s.heap.size ≤ q → A q) → va_P D vwCl ws s.heap → va_K D vwCl tys s → va_D A ws → va_S A s.heap s.heap [] → lv_has ls maxL (lv_args 0 avs) →
      W p l e rm s m avs.toArray below meth c s.heap [] 0 0 (MQ below (QQ A) avs.toArray s mc ms A) (F0 m 0 ls [])) : xM l y wsy rm D tys ws sz avs QQ mc ms := by
  refine Met.ofW (cc := cc) (maxL := maxL) (ret := ret) hy hw ?_
  intro p e s m args below meth c s₁ B hml hv
  obtain ⟨rfl, hsz, hP, hK, hD0⟩ := hv
  subst hsz
  have hl := lv_entry avs (n := maxL) hn
  rw [lg_entry_eq]
  exact body p e s m below meth c _ _ B.exec B.bytes B.returns hml (findClass_of_methodNamed B.named) (atoms_spec (ws := wsy) B.pre) B.notSynchronized (name_of_methodNamed B.named B.method).1 (fun q h => Or.inr h) hP hK hD0.self va_S.rf hl
theorem xb_pv {C : String} {b ci k : Nat} {q : vw_C} {fs : List Value} {As : List Value} (hP : va_P D vwCl ws H) (hK : va_K D vwCl tys s) (hD : va_D A ws) (hc : vwCl[ci]? = some q) (hC : q.1 = C) (he : ws[k]? = some (b, .inr (ci, fs))) : PreV s H C b (va_Pc (.ref b :: As) (xb_P D tys ws H.size)) As := by
  subst hC
  exact ⟨xb_blind, va_recv hK hP hc he, fun U hU hW => ⟨rfl, by rw [hU], by rw [hU]; exact hP, va_K.moved hW.alike hK, hD.weaken (fun _ _ _ _ => trivial)⟩⟩
theorem xb_ps {av As : List Value} (ha : av = As) (hP : va_P D vwCl ws H) (hK : va_K D vwCl tys s) (hD : va_D A ws) : PreS s H (va_Pc av (xb_P D tys ws H.size)) As := by
  subst ha
  exact ⟨xb_blind, fun U hU hW => ⟨rfl, by rw [hU], by rw [hU]; exact hP, va_K.moved hW.alike hK, hD.weaken (fun _ _ _ _ => trivial)⟩⟩
variable {pc : Nat} {ls : Array Slot} {rest st0 : List Value} {a : Array Value} {H0 : Heap} {free : Addr → Prop}
theorem xb_ri {post : Int32 → va_W → Prop} (hr : va_Run p l e R s m args below meth c H locs cells slots mc ms (F0 m pc ls st0) rest (xQi D tys post (va_A ws H.size) a) (va_A ws H.size)) (hD : va_D A ws) (hS : va_S A H0 H locs) (hA : ∀ q : Nat, H0.size ≤ q → A q)
    (kk : ∀ (r : Int32) (ws1 : va_W) (H1 : Heap) (locs1 : List Loc), post r ws1 → va_P D vwCl ws1 H1 → va_D A ws1 → va_S A H0 H1 locs1 → W p l e R s m args below meth c H1 locs1 (cells + mc) (slots + ms) Q (F0 m (pc + 3) ls (.int r :: rest))) : W p l e R s m args below meth c H locs cells slots Q (F0 m pc ls st0) := by
  have hF := xb_fr hD hS hA
  refine va_calli hr hS (fun q _ h => hF q h) hF (fun r u t H1 locs1 ht hvm hp hB hz hk hS1 => ?_)
  obtain ⟨hP1, hK1, hD1⟩ := hB
  rw [ht] at hP1
  exact kk r u H1 locs1 hp hP1 (hD1.weaken (fun _ q _ h => hF q.1 h)) hS1
theorem xb_rl {post : Int64 → va_W → Prop} (hr : va_Run p l e R s m args below meth c H locs cells slots mc ms (F0 m pc ls st0) rest (xQl D tys post (va_A ws H.size) a) (va_A ws H.size)) (hD : va_D A ws) (hS : va_S A H0 H locs) (hA : ∀ q : Nat, H0.size ≤ q → A q)
    (kk : ∀ (r : Int64) (ws1 : va_W) (H1 : Heap) (locs1 : List Loc), post r ws1 → va_P D vwCl ws1 H1 → va_D A ws1 → va_S A H0 H1 locs1 → W p l e R s m args below meth c H1 locs1 (cells + mc) (slots + ms) Q (F0 m (pc + 3) ls (.long r :: rest))) : W p l e R s m args below meth c H locs cells slots Q (F0 m pc ls st0) := by
  have hF := xb_fr hD hS hA
  refine va_calll hr hS (fun q _ h => hF q h) hF (fun r u t H1 locs1 ht hvm hp hB hz hk hS1 => ?_)
  obtain ⟨hP1, hK1, hD1⟩ := hB
  rw [ht] at hP1
  exact kk r u H1 locs1 hp hP1 (hD1.weaken (fun _ q _ h => hF q.1 h)) hS1
theorem xb_rv {post : va_W → Prop} (hr : va_Run p l e R s m args below meth c H locs cells slots mc ms (F0 m pc ls st0) rest (xQv D tys post (va_A ws H.size) a) (va_A ws H.size)) (hD : va_D A ws) (hS : va_S A H0 H locs) (hA : ∀ q : Nat, H0.size ≤ q → A q)
    (kk : ∀ (ws1 : va_W) (H1 : Heap) (locs1 : List Loc), post ws1 → va_P D vwCl ws1 H1 → va_D A ws1 → va_S A H0 H1 locs1 → W p l e R s m args below meth c H1 locs1 (cells + mc) (slots + ms) Q (F0 m (pc + 3) ls rest)) : W p l e R s m args below meth c H locs cells slots Q (F0 m pc ls st0) := by
  have hF := xb_fr hD hS hA
  refine va_callv hr hS (fun q _ h => hF q h) hF (fun u t H1 locs1 ht hvm hp hB hz hk hS1 => ?_)
  obtain ⟨hP1, hK1, hD1⟩ := hB
  rw [ht] at hP1
  exact kk u H1 locs1 hp hP1 (hD1.weaken (fun _ q _ h => hF q.1 h)) hS1
/-- the ends of a method -/
theorem xb_ir {post : Int32 → va_W → Prop} {cc : ByteArray} {v : Int32} (hx : p.tables.exec = Jvm.exec) (hb : c.code = cc) (hr : meth.sig.returnType = some .int) (hlocks : meth.locks = false) (hP : va_P D vwCl ws H) (hK : va_K D vwCl tys s) (hD : va_D A ws) (hS : va_S A s.heap H locs) (hdg : decode cc pc = .ok (.ireturn, 1)) (hp : post v ws) :
    W p l e R s m args below meth c H locs cells slots (MQ below (xQi D tys post A) args s cells slots A) (F0 m pc ls [.int v]) :=
  W.iret hx hb hr (fun t ht hW => ⟨⟨v, ws, rfl, hp, by rw [ht]; exact hP, va_K.moved hW.alike hK, hD⟩, hS.F ht⟩) hS.2.2 hdg hlocks
theorem xb_zr {post : Int32 → va_W → Prop} {cc : ByteArray} {v : Int32} (hx : p.tables.exec = Jvm.exec) (hb : c.code = cc) (hr : meth.sig.returnType = some .boolean) (hlocks : meth.locks = false) (hP : va_P D vwCl ws H) (hK : va_K D vwCl tys s) (hD : va_D A ws) (hS : va_S A s.heap H locs) (hdg : decode cc pc = .ok (.ireturn, 1)) (hn : narrow .boolean (.int v) = .int v) (hp : post v ws) :
    W p l e R s m args below meth c H locs cells slots (MQ below (xQi D tys post A) args s cells slots A) (F0 m pc ls [.int v]) :=
  W.zret hx hb hr hn (fun t ht hW => ⟨⟨v, ws, rfl, hp, by rw [ht]; exact hP, va_K.moved hW.alike hK, hD⟩, hS.F ht⟩) hS.2.2 hdg hlocks
theorem xb_lr {post : Int64 → va_W → Prop} {cc : ByteArray} {v : Int64} (hx : p.tables.exec = Jvm.exec) (hb : c.code = cc) (hr : meth.sig.returnType = some .long) (hlocks : meth.locks = false) (hP : va_P D vwCl ws H) (hK : va_K D vwCl tys s) (hD : va_D A ws) (hS : va_S A s.heap H locs) (hdg : decode cc pc = .ok (.lreturn, 1)) (hp : post v ws) :
    W p l e R s m args below meth c H locs cells slots (MQ below (xQl D tys post A) args s cells slots A) (F0 m pc ls [.long v]) :=
  W.lret hx hb hr (fun t ht hW => ⟨⟨v, ws, rfl, hp, by rw [ht]; exact hP, va_K.moved hW.alike hK, hD⟩, hS.F ht⟩) hS.2.2 hdg hlocks
theorem xb_vr {post : va_W → Prop} {cc : ByteArray} (hx : p.tables.exec = Jvm.exec) (hb : c.code = cc) (hr : meth.sig.returnType = none) (hlocks : meth.locks = false) (hP : va_P D vwCl ws H) (hK : va_K D vwCl tys s) (hD : va_D A ws) (hS : va_S A s.heap H locs) (hdg : decode cc pc = .ok (.return_, 1)) (hp : post ws) :
    W p l e R s m args below meth c H locs cells slots (MQ below (xQv D tys post A) args s cells slots A) (F0 m pc ls []) :=
  W.vret hx hb hr (fun t ht hW => ⟨⟨ws, rfl, hp, by rw [ht]; exact hP, va_K.moved hW.alike hK, hD⟩, hS.F ht⟩) hS.2.2 hdg hlocks
end XB
theorem sgS {ws : va_W} {k : Nat} {x v : Nat × va_E} (h : ws[k]? = some x) : (ws.set k v)[k]? = some v := List.getElem?_set_self (List.getElem?_eq_some_iff.mp h).1
theorem sgN {ws : va_W} {k j : Nat} {v : Nat × va_E} (h : j ≠ k) : (ws.set k v)[j]? = ws[j]? := List.getElem?_set_ne (Ne.symm h)
/-- an answer that is a truth value -/
theorem bz_0 {P : Prop} [Decidable P] {r : Int32} (h : r = if P then 1 else 0) (c : r = 0) : ¬ P := fun q => by rw [if_pos q] at h; rw [h] at c; exact absurd c (by decide)
theorem bz_1 {P : Prop} [Decidable P] {r : Int32} (h : r = if P then 1 else 0) (c : ¬ r = 0) : P := by
  by_cases q : P
  · exact q
  · rw [if_neg q] at h; exact absurd h c
theorem bz_x {P : Prop} [Decidable P] {r : Int32} (h : r = if P then 1 else 0) (c : r = 1) : P := by
  by_cases q : P
  · exact q
  · rw [if_neg q] at h; rw [h] at c; exact absurd c (by decide)
theorem bz_y {P : Prop} [Decidable P] {r : Int32} (h : r = if P then 1 else 0) (c : ¬ r = 1) : ¬ P := fun q => by rw [if_pos q] at h; exact c h
