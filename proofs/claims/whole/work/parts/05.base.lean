/-! THE CONTEXT: class numbers and slots, the classes of int[], char[], int[][], boolean[], long[]; the tables LETTERS, LEAST_SIZES, MOST_SIZES -/
abbrev xG : Type := va_G × (Nat × Nat × Nat × Nat × Nat) × (Nat × Nat × Nat)
abbrev xD (g : xG) : va_G := g.1
abbrev cI (g : xG) : ClassId := g.2.1.1
abbrev cC (g : xG) : ClassId := g.2.1.2.1
abbrev cG (g : xG) : ClassId := g.2.1.2.2.1
abbrev cZ (g : xG) : ClassId := g.2.1.2.2.2.1
abbrev cL (g : xG) : ClassId := g.2.1.2.2.2.2
abbrev tL (g : xG) : Nat := g.2.2.1
abbrev tA (g : xG) : Nat := g.2.2.2.1
abbrev tB (g : xG) : Nat := g.2.2.2.2
/-- all cells that the law and its callees make -/
def xA (b0 : Nat) : Nat → Prop := fun q => b0 ≤ q
abbrev xT (g : xG) : List (ClassId × FieldType) := [(cI g, .int), (cC g, .char), (cG g, .array .int), (cZ g, .boolean), (cL g, .long)]
def xL : Nat → Int32 := fun j => [70, 66, 82, 71, 83].getD j 0
def xLo : Nat → Int32 := fun j => [1, 1, 0, 0, 1].getD j 0
def xHi : Nat → Int32 := fun j => [9999, 9999, 9999, 9999, 999].getD j 0
/-- the class of int[][]: its component is that of int[] -/
def xGk (g : xG) (U : State) : Prop := ∃ kA : Class, U.vm.classes[cG g]? = some kA ∧ kA.kind = .array (cI g) (.array .int)
theorem xGk.moved {g : xG} {u U : State} (hvm : u.vm.Alike U.vm) (h : xGk g u) : xGk g U := by
  obtain ⟨kA, h1, h2⟩ := h
  obtain ⟨k', hk', he⟩ := hvm.2.2 _ _ h1
  exact ⟨k', hk', by rw [he]; exact h2⟩
/-- the static tables, that nobody writes, and the links to them from the nest -/
def xZ (g : xG) (b0 : Nat) (U : State) (H : Heap) : Prop :=
  (va_Z R_MT "LETTERS" "[C" (.ref (tL g)) (xA b0) U H ∧ va_T .char (tL g) 5 (fun j => .int (xL j)) (xA b0) U H) ∧
  (va_Z R_MT "LEAST_SIZES" "[I" (.ref (tA g)) (xA b0) U H ∧ va_T .int (tA g) 5 (fun j => .int (xLo j)) (xA b0) U H) ∧
  (va_Z R_MT "MOST_SIZES" "[I" (.ref (tB g)) (xA b0) U H ∧ va_T .int (tB g) 5 (fun j => .int (xHi j)) (xA b0) U H) ∧
  (∀ w ∈ xNest, va_Nw w U) ∧ xGk g U
theorem xZ.kept {g : xG} {b0 : Nat} {U : State} {H H1 : Heap} (h : xZ g b0 U H) (hq : ∀ a : Nat, a < H.size → ¬ xA b0 a → H1[a]? = H[a]?) : xZ g b0 U H1 := by
  obtain ⟨⟨a1, a2⟩, ⟨b1, b2⟩, ⟨c1, c2⟩, d, k⟩ := h
  exact ⟨⟨a1.kept hq, a2.kept hq⟩, ⟨b1.kept hq, b2.kept hq⟩, ⟨c1.kept hq, c2.kept hq⟩, d, k⟩
theorem xZ.moved {g : xG} {b0 : Nat} {s U : State} {H : Heap} (hW : s.WarmedH U.vm) (h : xZ g b0 s H) : xZ g b0 U H := by
  obtain ⟨⟨a1, a2⟩, ⟨b1, b2⟩, ⟨c1, c2⟩, d, k⟩ := h
  exact ⟨⟨va_Z.moved hW.alike a1, va_T.moved hW.alike a2⟩, ⟨va_Z.moved hW.alike b1, va_T.moved hW.alike b2⟩, ⟨va_Z.moved hW.alike c1, va_T.moved hW.alike c2⟩, fun w hw => xNest_warm hW w hw (d w hw), k.moved hW.alike⟩
theorem xZ.same {g : xG} {b0 : Nat} {s U : State} {H : Heap} (hv : s.vm = U.vm) (h : xZ g b0 s H) : xZ g b0 U H := by
  have hA : s.vm.Alike U.vm := hv ▸ Vm.Alike.refl s.vm
  obtain ⟨⟨a1, a2⟩, ⟨b1, b2⟩, ⟨c1, c2⟩, d, k⟩ := h
  exact ⟨⟨va_Z.moved hA a1, va_T.moved hA a2⟩, ⟨va_Z.moved hA b1, va_T.moved hA b2⟩, ⟨va_Z.moved hA c1, va_T.moved hA c2⟩, fun w hw => va_Nw.same (xNest_on w hw) hv (d w hw), k.moved hA⟩
/-- a state that holds the world ws -/
def xS (g : xG) (b0 : Nat) (ws : va_W) (U : State) : Prop := b0 ≤ U.heap.size ∧ va_P (xD g) vwCl ws U.heap ∧ va_D (xA b0) ws ∧ va_K (xD g) vwCl (xT g) U ∧ xZ g b0 U U.heap
/-- what stands while a method runs -/
def xE (g : xG) (b0 : Nat) (cc : ByteArray) (nL : Nat) (own : String) (p : Program) (s : State) (m : MethodId) (args : Array Value) (meth : Method) (c : Code) : Prop :=
  p.tables.exec = Jvm.exec ∧ c.code = cc ∧ c.maxLocals = nL ∧ s.vm.findClass own = some m.cls ∧ (∀ w ∈ TB, w.before args s = true) ∧ va_K (xD g) vwCl (xT g) s ∧ xZ g b0 s s.heap ∧ b0 ≤ s.heap.size ∧ meth.locks = false
theorem xS.blind {g : xG} {b0 : Nat} {ws : va_W} {av : List Value} : FrameBlind (va_Pc av (xS g b0 ws)) := by
  intro a U gg mk h
  obtain ⟨h0, h1, h2, h3, h4, h5⟩ := h
  exact ⟨h0, h1, h2, h3, va_K.moved (u := U) (U := U.calling gg mk a) (Vm.Alike.refl U.vm) h4, xZ.same (s := U) (U := U.calling gg mk a) rfl h5⟩
/-- a level of the calls: its frames and locals -/
abbrev rmL (lev : Nat) : Room := { frames := lev, cells := 0, slots := 0, locals := 40 * lev }
abbrev rmC (lev mc ms : Nat) : Room := { frames := lev, cells := mc, slots := ms, locals := 40 * lev }
/-- contracts: M changes the world (u is the new one), R reads -/
def xMi (l : Launch) (g : xG) (b0 : Nat) (y : MethodName) (cc : ByteArray) (nL : Nat) (ret : Option FieldType) (lev : Nat) (av : List Value) (ws : va_W) (post : Int32 → va_W → Prop) : Prop :=
  Met l y (Cond.code y cc nL ret :: TB) (rmL lev) (va_Pc av (xS g b0 ws)) (va_Qi post (fun u t => va_P (xD g) vwCl u t.heap ∧ va_D (xA b0) u) (xA b0)) 0 0 (xA b0)
def xMv (l : Launch) (g : xG) (b0 : Nat) (y : MethodName) (cc : ByteArray) (nL : Nat) (lev : Nat) (av : List Value) (ws : va_W) (post : va_W → Prop) : Prop :=
  Met l y (Cond.code y cc nL none :: TB) (rmL lev) (va_Pc av (xS g b0 ws)) (va_Qv post (fun u t => va_P (xD g) vwCl u t.heap ∧ va_D (xA b0) u) (xA b0)) 0 0 (xA b0)
/-- a constructor: mc cells of ms slots are made -/
def xMc (l : Launch) (g : xG) (b0 : Nat) (y : MethodName) (cc : ByteArray) (nL : Nat) (lev mc ms : Nat) (av : List Value) (ws : va_W) (post : va_W → Prop) : Prop :=
  Met l y (Cond.code y cc nL none :: TB) (rmC lev mc ms) (va_Pc av (xS g b0 ws)) (va_Qv post (fun u t => va_P (xD g) vwCl u t.heap ∧ va_D (xA b0) u) (xA b0)) mc ms (xA b0)
def xRi (l : Launch) (g : xG) (b0 : Nat) (y : MethodName) (cc : ByteArray) (nL : Nat) (ret : Option FieldType) (lev : Nat) (av : List Value) (ws : va_W) (post : Int32 → Prop) : Prop :=
  Met l y (Cond.code y cc nL ret :: TB) (rmL lev) (va_Pc av (xS g b0 ws)) (vp_Si post) 0 0 (fun _ => False)
def xRl (l : Launch) (g : xG) (b0 : Nat) (y : MethodName) (cc : ByteArray) (nL : Nat) (lev : Nat) (av : List Value) (ws : va_W) (post : Int64 → Prop) : Prop :=
  Met l y (Cond.code y cc nL (some .long) :: TB) (rmL lev) (va_Pc av (xS g b0 ws)) (vp_Sl post) 0 0 (fun _ => False)
section XIN
variable {l : Launch} {g : xG} {b0 : Nat} {y : MethodName} {cc : ByteArray} {nL : Nat} {ret : Option FieldType} {lev mc ms : Nat} {av : List Value} {ws : va_W}
/-- the entry, for every kind of contract -/
theorem x_in {rm : Room} {Qc : Array Value → State → Outcome → State → Prop} {free : Addr → Prop} (hy : plainName y.cls = true) (hn : (lg_sl av).length ≤ nL)
    (body : ∀ (p : Program) (e : Env) (s : State) (m : MethodId) (below : List Frame) (meth : Method) (c : Code) (ls : Array Slot), xE g b0 cc nL y.cls p s m av.toArray meth c → meth.sig.returnType = ret → (y.name = "<init>" → meth.name = "<init>") → va_P (xD g) vwCl ws s.heap → va_D (xA b0) ws → lv_has ls nL (lv_args 0 av) →
      W p l e rm s m av.toArray below meth c s.heap [] 0 0 (MQ below Qc av.toArray s mc ms free) (F0 m 0 ls [])) :
    Met l y (Cond.code y cc nL ret :: TB) rm (va_Pc av (xS g b0 ws)) Qc mc ms free := by
  refine Met.ofW (cc := cc) (maxL := nL) (ret := ret) hy rfl ?_
  intro p e s m args below meth c s₁ B hml hv
  obtain ⟨rfl, h1, h2, h3, h4, h5⟩ := hv
  have hts := atoms_spec (ws := Cond.code y cc nL ret :: TB) B.pre
  have hl := lv_entry av (n := nL) hn
  rw [lg_entry_eq]
  generalize (lg_sl av ++ List.replicate (nL - (lg_sl av).length) Slot.unset).toArray = ls at hl ⊢
  exact body p e s m below meth c ls ⟨B.exec, B.bytes, hml, findClass_of_methodNamed B.named, fun w hw => hts w (List.mem_cons_of_mem _ hw), h4, h5, h1, B.notSynchronized⟩ B.returns (fun hi => by rw [← hi]; exact (name_of_methodNamed B.named B.method).1) h2 h3 hl
end XIN
section XRT
variable {p : Program} {l : Launch} {e : Env} {R : Room} {s : State} {m : MethodId} {args : Array Value} {below : List Frame} {meth : Method} {c : Code} {H : Heap} {locs : List Loc} {cells slots : Nat} {Q : State → Prop}
variable {cc : ByteArray} {pc nL : Nat} {ls : Array Slot} {rest : List Value} {g : xG} {b0 : Nat} {ws : va_W} {own : String}
theorem x_top {x y : Int32} (h : x = y) (k : W p l e R s m args below meth c H locs cells slots Q (F0 m pc ls (.int y :: rest))) : W p l e R s m args below meth c H locs cells slots Q (F0 m pc ls (.int x :: rest)) := by rw [h]; exact k
theorem x_topL {x y : Int64} (h : x = y) (k : W p l e R s m args below meth c H locs cells slots Q (F0 m pc ls (.long y :: rest))) : W p l e R s m args below meth c H locs cells slots Q (F0 m pc ls (.long x :: rest)) := by rw [h]; exact k
/-- ends -/
theorem x_ri (E : xE g b0 cc nL own p s m args meth c) (hr : meth.sig.returnType = some .int) (hS : va_S (xA b0) s.heap H locs) {post : Int32 → va_W → Prop} {v : Int32} (hp : post v ws) (hP : va_P (xD g) vwCl ws H) (hD : va_D (xA b0) ws) (hdg : decode cc pc = .ok (.ireturn, 1)) :
    W p l e R s m args below meth c H locs cells slots (MQ below (va_Qi post (fun u t => va_P (xD g) vwCl u t.heap ∧ va_D (xA b0) u) (xA b0)) args s cells slots (xA b0)) (F0 m pc ls [.int v]) :=
  W.iret E.1 E.2.1 hr (fun t ht hW => ⟨⟨v, ws, rfl, hp, by rw [ht]; exact hP, hD⟩, hS.F ht⟩) hS.2.2 hdg E.2.2.2.2.2.2.2.2
theorem x_rz (E : xE g b0 cc nL own p s m args meth c) (hr : meth.sig.returnType = some .boolean) (hS : va_S (xA b0) s.heap H locs) {post : Int32 → va_W → Prop} {v : Int32} (hv : narrow .boolean (.int v) = .int v) (hp : post v ws) (hP : va_P (xD g) vwCl ws H) (hD : va_D (xA b0) ws) (hdg : decode cc pc = .ok (.ireturn, 1)) :
    W p l e R s m args below meth c H locs cells slots (MQ below (va_Qi post (fun u t => va_P (xD g) vwCl u t.heap ∧ va_D (xA b0) u) (xA b0)) args s cells slots (xA b0)) (F0 m pc ls [.int v]) :=
  W.zret E.1 E.2.1 hr hv (fun t ht hW => ⟨⟨v, ws, rfl, hp, by rw [ht]; exact hP, hD⟩, hS.F ht⟩) hS.2.2 hdg E.2.2.2.2.2.2.2.2
theorem x_rv (E : xE g b0 cc nL own p s m args meth c) (hr : meth.sig.returnType = none) (hS : va_S (xA b0) s.heap H locs) {post : va_W → Prop} (hp : post ws) (hP : va_P (xD g) vwCl ws H) (hD : va_D (xA b0) ws) (hdg : decode cc pc = .ok (.return_, 1)) :
    W p l e R s m args below meth c H locs cells slots (MQ below (va_Qv post (fun u t => va_P (xD g) vwCl u t.heap ∧ va_D (xA b0) u) (xA b0)) args s cells slots (xA b0)) (F0 m pc ls []) :=
  W.vret E.1 E.2.1 hr (fun t ht hW => ⟨⟨ws, rfl, hp, by rw [ht]; exact hP, hD⟩, hS.F ht⟩) hS.2.2 hdg E.2.2.2.2.2.2.2.2
theorem x_pi (E : xE g b0 cc nL own p s m args meth c) (hr : meth.sig.returnType = some .int) {post : Int32 → Prop} {v : Int32} (hp : post v) (hdg : decode cc pc = .ok (.ireturn, 1)) :
    W p l e R s m args below meth c s.heap [] cells slots (MQ below (vp_Si post) args s cells slots (fun _ => False)) (F0 m pc ls [.int v]) :=
  W.iret E.1 E.2.1 hr (fun t ht hW => ⟨v, rfl, hp, ht⟩) (fun _ h => by cases h) hdg E.2.2.2.2.2.2.2.2
theorem x_pz (E : xE g b0 cc nL own p s m args meth c) (hr : meth.sig.returnType = some .boolean) {post : Int32 → Prop} {v : Int32} (hv : narrow .boolean (.int v) = .int v) (hp : post v) (hdg : decode cc pc = .ok (.ireturn, 1)) :
    W p l e R s m args below meth c s.heap [] cells slots (MQ below (vp_Si post) args s cells slots (fun _ => False)) (F0 m pc ls [.int v]) :=
  W.zret E.1 E.2.1 hr hv (fun t ht hW => ⟨v, rfl, hp, ht⟩) (fun _ h => by cases h) hdg E.2.2.2.2.2.2.2.2
theorem x_pl (E : xE g b0 cc nL own p s m args meth c) (hr : meth.sig.returnType = some .long) {post : Int64 → Prop} {v : Int64} (hp : post v) (hdg : decode cc pc = .ok (.lreturn, 1)) :
    W p l e R s m args below meth c s.heap [] cells slots (MQ below (vp_Sl post) args s cells slots (fun _ => False)) (F0 m pc ls [.long v]) :=
  W.lret E.1 E.2.1 hr (fun t ht hW => ⟨v, rfl, hp, ht⟩) (fun _ h => by cases h) hdg E.2.2.2.2.2.2.2.2
/-- worlds by their places: w1 is ws, but for the place q, where x stands -/
def xU (ws : va_W) (q : Nat) (x : Nat × va_E) (w1 : va_W) : Prop := w1[q]? = some x ∧ ∀ k, k ≠ q → w1[k]? = ws[k]?
theorem xU.of {ws : va_W} {q : Nat} {y x : Nat × va_E} (h : ws[q]? = some y) : xU ws q x (ws.set q x) := by
  have hl : q < ws.length := (List.getElem?_eq_some_iff.mp h).1
  exact ⟨by simp [hl], fun k hk => by rw [List.getElem?_set_ne (Ne.symm hk)]⟩
/-- w1 is ws, but for the places lo .. hi - 1 -/
def xQ (lo hi : Nat) (ws w1 : va_W) : Prop := ∀ k, (k < lo ∨ hi ≤ k) → w1[k]? = ws[k]?
theorem xQ.rf {lo hi : Nat} {ws : va_W} : xQ lo hi ws ws := fun _ _ => rfl
theorem xQ.tr {lo hi : Nat} {w0 w1 w2 : va_W} (h : xQ lo hi w0 w1) (h2 : xQ lo hi w1 w2) : xQ lo hi w0 w2 := fun k hk => (h2 k hk).trans (h k hk)
theorem xQ.up {lo hi q : Nat} {w0 w1 w2 : va_W} {x : Nat × va_E} (h : xQ lo hi w0 w1) (h2 : xU w1 q x w2) (hq : lo ≤ q ∧ q < hi) : xQ lo hi w0 w2 := fun k hk => (h2.2 k (by omega)).trans (h k hk)
theorem xQ.wide {lo hi lo' hi' : Nat} {w0 w1 : va_W} (h : xQ lo hi w0 w1) (h2 : lo' ≤ lo ∧ hi ≤ hi') : xQ lo' hi' w0 w1 := fun k hk => h k (by omega)
/-- getfield, putfield -/
theorem x_get (E : xE g b0 cc nL own p s m args meth c) (hP : va_P (xD g) vwCl ws H) {q0 ci a : Nat} {fs : List Value} (he : ws[q0]? = some (a, .inr (ci, fs))) {C : String} {T : u_T} {N : Nat} (hc : vwCl[ci]? = some (C, T, N)) (hin : ∀ w ∈ u_ws C T N, w ∈ TB) (k : Nat) (hk : k < N) {index : Nat} (hlink : Cond.fieldLink own index (T k).1 (T k).2.1 (T k).2.2.1 ∈ TB) {v : Value} (hv : fs[k]? = some v) (hdg : decode cc pc = .ok (.getfield index, 3))
    (kk : W p l e R s m args below meth c H locs cells slots Q (F0 m (pc + 3) ls (v :: rest))) : W p l e R s m args below meth c H locs cells slots Q (F0 m pc ls (.ref a :: rest)) :=
  va_get E.1 E.2.1 E.2.2.2.2.1 hin E.2.2.2.1 E.2.2.2.2.2.1 hP q0 he hc k hk (E.2.2.2.2.1 _ hlink) (fun _ h => h) hv hdg kk
theorem x_put (E : xE g b0 cc nL own p s m args meth c) (hP : va_P (xD g) vwCl ws H) (hD : va_D (xA b0) ws) (hS : va_S (xA b0) s.heap H locs) {q0 ci a : Nat} {fs : List Value} (he : ws[q0]? = some (a, .inr (ci, fs))) {C : String} {T : u_T} {N : Nat} (hc : vwCl[ci]? = some (C, T, N)) (hin : ∀ w ∈ u_ws C T N, w ∈ TB) {ty0 : Nat → FieldType} (hty : ∀ k, k < N → parseFieldDescriptor (T k).2.2.1 = some (ty0 k)) (hnm : ∀ a, a < N → ∀ b, b < N → a ≠ b → (T a).2.1 ≠ (T b).2.1)
    (k : Nat) (hk : k < N) {index : Nat} (hlink : Cond.fieldLink own index (T k).1 (T k).2.1 (T k).2.2.1 ∈ TB) (hfin : (T k).2.2.2 = false) {v : Value} (hn : narrow (ty0 k) v = v) (hfit : fits (ty0 k) v = true) (hl : k < fs.length) (hdg : decode cc pc = .ok (.putfield index, 3))
    (kk : ∀ (w1 : va_W) (H1 : Heap) (locs1 : List Loc), xU ws q0 (a, .inr (ci, fs.set k v)) w1 → va_P (xD g) vwCl w1 H1 → va_D (xA b0) w1 → va_S (xA b0) s.heap H1 locs1 → W p l e R s m args below meth c H1 locs1 cells slots Q (F0 m (pc + 3) ls rest)) : W p l e R s m args below meth c H locs cells slots Q (F0 m pc ls (v :: .ref a :: rest)) :=
  va_put E.1 E.2.1 E.2.2.2.2.1 hin ty0 hty hnm E.2.2.2.1 E.2.2.2.2.2.1 hP hD hS q0 he hc k hk (E.2.2.2.2.1 _ hlink) (fun _ h => h) hfin (hty k hk) hn hfit hl hdg (fun H1 locs1 h1 h2 h3 => kk _ H1 locs1 (xU.of he) h1 h2 h3)
theorem x_putF (E : xE g b0 cc nL own p s m args meth c) (hP : va_P (xD g) vwCl ws H) (hD : va_D (xA b0) ws) (hS : va_S (xA b0) s.heap H locs) {q0 ci a : Nat} {fs : List Value} (he : ws[q0]? = some (a, .inr (ci, fs))) {C : String} {T : u_T} {N : Nat} (hc : vwCl[ci]? = some (C, T, N)) (hin : ∀ w ∈ u_ws C T N, w ∈ TB) {ty0 : Nat → FieldType} (hty : ∀ k, k < N → parseFieldDescriptor (T k).2.2.1 = some (ty0 k)) (hnm : ∀ a, a < N → ∀ b, b < N → a ≠ b → (T a).2.1 ≠ (T b).2.1)
    (k : Nat) (hk : k < N) {index : Nat} (hlink : Cond.fieldLink own index (T k).1 (T k).2.1 (T k).2.2.1 ∈ TB) (hfin : (T k).2.2.2 = true) (hi : meth.name = "<init>") (hdecl : (T k).1 = own) {v : Value} (hn : narrow (ty0 k) v = v) (hfit : fits (ty0 k) v = true) (hl : k < fs.length) (hdg : decode cc pc = .ok (.putfield index, 3))
    (kk : ∀ (w1 : va_W) (H1 : Heap) (locs1 : List Loc), xU ws q0 (a, .inr (ci, fs.set k v)) w1 → va_P (xD g) vwCl w1 H1 → va_D (xA b0) w1 → va_S (xA b0) s.heap H1 locs1 → W p l e R s m args below meth c H1 locs1 cells slots Q (F0 m (pc + 3) ls rest)) : W p l e R s m args below meth c H locs cells slots Q (F0 m pc ls (v :: .ref a :: rest)) :=
  va_putF E.1 E.2.1 E.2.2.2.2.1 hin ty0 hty hnm E.2.2.2.1 E.2.2.2.2.2.1 hP hD hS q0 he hc k hk (E.2.2.2.2.1 _ hlink) (fun _ h => h) hfin hi hdecl (hty k hk) hn hfit hl hdg (fun H1 locs1 h1 h2 h3 => kk _ H1 locs1 (xU.of he) h1 h2 h3)
/-- arrays -/
theorem x_iald (E : xE g b0 cc nL own p s m args meth c) (hP : va_P (xD g) vwCl ws H) {q0 a n : Nat} {f : Nat → Int32} (he : ws[q0]? = some (a, .inl (cI g, n, .inl f))) {i : Int32} {j : Nat} (hi : i = nI j) (hj : j < n) (hn : n < 2 ^ 31) (hdg : decode cc pc = .ok (.iaload, 1))
    (kk : W p l e R s m args below meth c H locs cells slots Q (F0 m (pc + 1) ls (.int (f j) :: rest))) : W p l e R s m args below meth c H locs cells slots Q (F0 m pc ls (.int i :: .ref a :: rest)) := by
  subst hi
  refine va_iald E.1 E.2.1 E.2.2.2.2.2.1 hP q0 0 he rfl (vp_in_nI hj hn) hdg ?_
  rw [nI_clamp (Nat.lt_trans hj hn)]
  exact kk
theorem x_cald (E : xE g b0 cc nL own p s m args meth c) (hP : va_P (xD g) vwCl ws H) {q0 a n : Nat} {f : Nat → Int32} (he : ws[q0]? = some (a, .inl (cC g, n, .inl f))) {i : Int32} {j : Nat} (hi : i = nI j) (hj : j < n) (hn : n < 2 ^ 31) (hdg : decode cc pc = .ok (.caload, 1))
    (kk : W p l e R s m args below meth c H locs cells slots Q (F0 m (pc + 1) ls (.int (f j) :: rest))) : W p l e R s m args below meth c H locs cells slots Q (F0 m pc ls (.int i :: .ref a :: rest)) := by
  subst hi
  refine va_cald E.1 E.2.1 E.2.2.2.2.2.1 hP q0 1 he rfl (vp_in_nI hj hn) hdg ?_
  rw [nI_clamp (Nat.lt_trans hj hn)]
  exact kk
theorem x_iast (E : xE g b0 cc nL own p s m args meth c) (hP : va_P (xD g) vwCl ws H) (hD : va_D (xA b0) ws) (hS : va_S (xA b0) s.heap H locs) {q0 a n : Nat} {f : Nat → Int32} (he : ws[q0]? = some (a, .inl (cI g, n, .inl f))) {i x : Int32} {j : Nat} (hi : i = nI j) (hj : j < n) (hn : n < 2 ^ 31) (hdg : decode cc pc = .ok (.iastore, 1))
    (kk : ∀ (w1 : va_W) (H1 : Heap) (locs1 : List Loc), xU ws q0 (a, .inl (cI g, n, .inl (upd f j x))) w1 → va_P (xD g) vwCl w1 H1 → va_D (xA b0) w1 → va_S (xA b0) s.heap H1 locs1 → W p l e R s m args below meth c H1 locs1 cells slots Q (F0 m (pc + 1) ls rest)) : W p l e R s m args below meth c H locs cells slots Q (F0 m pc ls (.int x :: .int i :: .ref a :: rest)) := by
  subst hi
  refine va_iast E.1 E.2.1 E.2.2.2.2.2.1 hP hD hS q0 0 he rfl (vp_in_nI hj hn) hdg (fun H1 locs1 h1 h2 h3 => ?_)
  rw [nI_clamp (Nat.lt_trans hj hn)] at h1 h2
  exact kk _ H1 locs1 (xU.of he) h1 h2 h3
theorem x_cast (E : xE g b0 cc nL own p s m args meth c) (hP : va_P (xD g) vwCl ws H) (hD : va_D (xA b0) ws) (hS : va_S (xA b0) s.heap H locs) {q0 a n : Nat} {f : Nat → Int32} (he : ws[q0]? = some (a, .inl (cC g, n, .inl f))) {i x : Int32} {j : Nat} (hi : i = nI j) (hj : j < n) (hn : n < 2 ^ 31) (hdg : decode cc pc = .ok (.castore, 1))
    (kk : ∀ (w1 : va_W) (H1 : Heap) (locs1 : List Loc), xU ws q0 (a, .inl (cC g, n, .inl (upd f j (vp_nar .char x)))) w1 → va_P (xD g) vwCl w1 H1 → va_D (xA b0) w1 → va_S (xA b0) s.heap H1 locs1 → W p l e R s m args below meth c H1 locs1 cells slots Q (F0 m (pc + 1) ls rest)) : W p l e R s m args below meth c H locs cells slots Q (F0 m pc ls (.int x :: .int i :: .ref a :: rest)) := by
  subst hi
  refine va_cast E.1 E.2.1 E.2.2.2.2.2.1 hP hD hS q0 1 he rfl (vp_in_nI hj hn) hdg (fun H1 locs1 h1 h2 h3 => ?_)
  rw [nI_clamp (Nat.lt_trans hj hn)] at h1 h2
  exact kk _ H1 locs1 (xU.of he) h1 h2 h3
theorem x_ilen (E : xE g b0 cc nL own p s m args meth c) (hP : va_P (xD g) vwCl ws H) {q0 a n : Nat} {x : (Nat → Int32) ⊕ (Nat → Int64) ⊕ (Nat → UInt32) ⊕ (Nat → UInt64) ⊕ (Nat → Option Nat)} (he : ws[q0]? = some (a, .inl (cI g, n, x))) (hdg : decode cc pc = .ok (.arraylength, 1))
    (kk : W p l e R s m args below meth c H locs cells slots Q (F0 m (pc + 1) ls (.int (nI n) :: rest))) : W p l e R s m args below meth c H locs cells slots Q (F0 m pc ls (.ref a :: rest)) :=
  va_alen E.1 E.2.1 E.2.2.2.2.2.1 hP q0 0 he rfl rfl hdg kk
theorem x_clen (E : xE g b0 cc nL own p s m args meth c) (hP : va_P (xD g) vwCl ws H) {q0 a n : Nat} {x : (Nat → Int32) ⊕ (Nat → Int64) ⊕ (Nat → UInt32) ⊕ (Nat → UInt64) ⊕ (Nat → Option Nat)} (he : ws[q0]? = some (a, .inl (cC g, n, x))) (hdg : decode cc pc = .ok (.arraylength, 1))
    (kk : W p l e R s m args below meth c H locs cells slots Q (F0 m (pc + 1) ls (.int (nI n) :: rest))) : W p l e R s m args below meth c H locs cells slots Q (F0 m pc ls (.ref a :: rest)) :=
  va_alen E.1 E.2.1 E.2.2.2.2.2.1 hP q0 1 he rfl rfl hdg kk
/-- a row out of an array of rows: its j-th row lies at r j -/
theorem x_aald (E : xE g b0 cc nL own p s m args meth c) (hP : va_P (xD g) vwCl ws H) {q0 a n : Nat} {f : Nat → Option Nat} (he : ws[q0]? = some (a, .inl (cG g, n, .inr (.inr (.inr (.inr f)))))) {i : Int32} {j y : Nat} (hi : i = nI j) (hj : j < n) (hn : n < 2 ^ 31) (hy : f j = some y) (hdg : decode cc pc = .ok (.aaload, 1))
    (kk : W p l e R s m args below meth c H locs cells slots Q (F0 m (pc + 1) ls (.ref y :: rest))) : W p l e R s m args below meth c H locs cells slots Q (F0 m pc ls (.int i :: .ref a :: rest)) := by
  subst hi
  have hcl : (nI j).toNatClampNeg = j := nI_clamp (Nat.lt_trans hj hn)
  refine W.aald (v := .ref y) (ty := .array .int) E.1 E.2.1 (hP q0 _ he) ((E.2.2.2.2.2.1.2 2 _ rfl).1 n (fun j => va_rf (f j))) rfl (fun q => by cases q) (by show ¬ (_ < 0 ∨ (arrV _ _ _).slots.size ≤ _); rw [arrV_size]; exact vp_in_nI hj hn) (by show (arrV _ _ _).slots[_]? = _; rw [hcl, arrV_read _ _ hj, hy]; rfl) rfl rfl hdg kk
/-- the static tables -/
theorem x_in5 {j : Nat} (h : j < 5) : vp_in (nI j) 5 := vp_in_nI h (by decide)
end XRT
section XCL
variable {p : Program} {l : Launch} {e : Env} {R : Room} {s : State} {m : MethodId} {args : Array Value} {below : List Frame} {meth : Method} {c : Code} {H : Heap} {locs : List Loc} {cells slots : Nat} {Q : State → Prop}
variable {cc : ByteArray} {pc nL : Nat} {ls : Array Slot} {rest st0 : List Value} {g : xG} {b0 : Nat} {ws : va_W} {own : String}
variable {y : MethodName} {bytes : ByteArray} {maxL n lev mc ms index : Nat} {ret : Option FieldType} {As : List Value} {b : Nat}
theorem xS.at (E : xE g b0 cc nL own p s m args meth c) (hP : va_P (xD g) vwCl ws H) (hD : va_D (xA b0) ws) (hS : va_S (xA b0) s.heap H locs) {U : State} (hU : U.heap = H) (hW : s.WarmedH U.vm) : xS g b0 ws U := by
  subst hU
  exact ⟨Nat.le_trans E.2.2.2.2.2.2.2.1 hS.1, hP, hD, va_K.moved hW.alike E.2.2.2.2.2.1, (E.2.2.2.2.2.2.1.kept hS.2.1).moved hW⟩
theorem x_words (hts : ∀ w ∈ TB, w.before args s = true) (hc : Cond.code y bytes maxL ret ∈ TB) : ∀ w ∈ Cond.code y bytes maxL ret :: TB, ∀ (a' : Array Value) (U : State), s.WarmedH U.vm → w.before a' U = true := by
  intro w hw a' U hW
  have hw' : w ∈ TB := by
    rcases List.mem_cons.mp hw with h | h
    · rw [h]; exact hc
    · exact h
  exact word_at hW (TB_good w hw') (hts w hw')
theorem x_cb (E : xE g b0 cc nL own p s m args meth c) (Y : xY y bytes maxL ret n) (hlink : Cond.methodLink own index y ∈ TB) (hR : lev + 1 ≤ R.frames ∧ 40 * lev + 40 ≤ R.locals) {rm : Room} (hrm : rm = rmC lev mc ms) : CallB R s args own index y bytes maxL ret (Cond.code y bytes maxL ret :: TB) rm mc ms n := by
  subst hrm
  have hts := E.2.2.2.2.1
  obtain ⟨y1, y2, ⟨y3, y4, y5⟩, y6⟩ := Y
  refine ⟨rfl, rfl, hR.1, ?_, x_words hts y2, List.mem_cons_self, hts _ y2, hts _ y1, ⟨y3, y4⟩, fun sig h => ?_, hts _ hlink⟩
  · show 8 + (maxL + 11) + 40 * lev ≤ R.locals
    omega
  · rw [h] at y5
    exact (Option.some.inj y5).symm
theorem x_pre (E : xE g b0 cc nL own p s m args meth c) (hP : va_P (xD g) vwCl ws H) (hD : va_D (xA b0) ws) (hS : va_S (xA b0) s.heap H locs) {av : List Value} : PreS s H (va_Pc av (xS g b0 ws)) av := ⟨xS.blind, fun U hU hW => ⟨rfl, xS.at E hP hD hS hU hW⟩⟩
theorem x_preV (E : xE g b0 cc nL own p s m args meth c) (hP : va_P (xD g) vwCl ws H) (hD : va_D (xA b0) ws) (hS : va_S (xA b0) s.heap H locs) {q0 ci : Nat} {fs : List Value} {C : String} {T : u_T} {N : Nat} (he : ws[q0]? = some (b, .inr (ci, fs))) (hc : vwCl[ci]? = some (C, T, N)) : PreV s H C b (va_Pc (.ref b :: As) (xS g b0 ws)) As :=
  ⟨xS.blind, va_recv E.2.2.2.2.2.1 hP hc he, fun U hU hW => ⟨rfl, xS.at E hP hD hS hU hW⟩⟩
/-- invokevirtual: M with an int, M without an answer, R with an int, R with a long -/
theorem x_cVi (E : xE g b0 cc nL own p s m args meth c) {post : Int32 → va_W → Prop} (hM : xMi l g b0 y bytes maxL ret lev (.ref b :: As) ws post) (Y : xY y bytes maxL ret As.length) (hw : Cond.methodLink own index y ∈ TB ∧ Cond.instanceMethod y ∈ TB ∧ Cond.selects y.cls y y ∈ TB) (hP : va_P (xD g) vwCl ws H) (hD : va_D (xA b0) ws) (hS : va_S (xA b0) s.heap H locs) {q0 ci : Nat} {fs : List Value} {T : u_T} {N : Nat} (he : ws[q0]? = some (b, .inr (ci, fs))) (hc : vwCl[ci]? = some (y.cls, T, N)) (hl : ls.size = nL) (hR : lev + 1 ≤ R.frames ∧ 40 * lev + 40 ≤ R.locals) (hcs : cells ≤ R.cells ∧ slots ≤ R.slots) (hst : st0 = As.reverse ++ .ref b :: rest) (hcat : (rest.map fun v => v.category).sum ≤ 8) (hdg : decode cc pc = .ok (.invokevirtual index, 3))
    (kk : ∀ (r : Int32) (u : va_W) (H1 : Heap) (locs1 : List Loc), post r u → va_P (xD g) vwCl u H1 → va_D (xA b0) u → va_S (xA b0) s.heap H1 locs1 → W p l e R s m args below meth c H1 locs1 cells slots Q (F0 m (pc + 3) ls (.int r :: rest))) : W p l e R s m args below meth c H locs cells slots Q (F0 m pc ls st0) := by
  have hts := E.2.2.2.2.1
  refine va_calli (va_runV (As := As) (rest := rest) ⟨E.1, E.2.1, E.2.2.1, E.2.2.2.1, hts⟩ hM ⟨x_cb E Y hw.1 hR rfl, hts _ hw.2.1, hts _ hw.2.2⟩ (x_preV E hP hD hS he hc) rfl rfl hl hst (lv_room hcat) hdg hcs) hS (fun q _ h => h) (fun q h => h) (fun r u t H1 locs1 ht hvm hp hB hz hk hS1 => ?_)
  subst ht
  exact kk r u _ locs1 hp hB.1 hB.2 hS1
theorem x_cVv (E : xE g b0 cc nL own p s m args meth c) {post : va_W → Prop} (hM : xMv l g b0 y bytes maxL lev (.ref b :: As) ws post) (Y : xY y bytes maxL none As.length) (hw : Cond.methodLink own index y ∈ TB ∧ Cond.instanceMethod y ∈ TB ∧ Cond.selects y.cls y y ∈ TB) (hP : va_P (xD g) vwCl ws H) (hD : va_D (xA b0) ws) (hS : va_S (xA b0) s.heap H locs) {q0 ci : Nat} {fs : List Value} {T : u_T} {N : Nat} (he : ws[q0]? = some (b, .inr (ci, fs))) (hc : vwCl[ci]? = some (y.cls, T, N)) (hl : ls.size = nL) (hR : lev + 1 ≤ R.frames ∧ 40 * lev + 40 ≤ R.locals) (hcs : cells ≤ R.cells ∧ slots ≤ R.slots) (hst : st0 = As.reverse ++ .ref b :: rest) (hcat : (rest.map fun v => v.category).sum ≤ 8) (hdg : decode cc pc = .ok (.invokevirtual index, 3))
    (kk : ∀ (u : va_W) (H1 : Heap) (locs1 : List Loc), post u → va_P (xD g) vwCl u H1 → va_D (xA b0) u → va_S (xA b0) s.heap H1 locs1 → W p l e R s m args below meth c H1 locs1 cells slots Q (F0 m (pc + 3) ls rest)) : W p l e R s m args below meth c H locs cells slots Q (F0 m pc ls st0) := by
  have hts := E.2.2.2.2.1
  refine va_callv (va_runV (As := As) (rest := rest) ⟨E.1, E.2.1, E.2.2.1, E.2.2.2.1, hts⟩ hM ⟨x_cb E Y hw.1 hR rfl, hts _ hw.2.1, hts _ hw.2.2⟩ (x_preV E hP hD hS he hc) rfl rfl hl hst (lv_room hcat) hdg hcs) hS (fun q _ h => h) (fun q h => h) (fun u t H1 locs1 ht hvm hp hB hz hk hS1 => ?_)
  subst ht
  exact kk u _ locs1 hp hB.1 hB.2 hS1
theorem x_cRi (E : xE g b0 cc nL own p s m args meth c) {post : Int32 → Prop} (hM : xRi l g b0 y bytes maxL ret lev (.ref b :: As) ws post) (Y : xY y bytes maxL ret As.length) (hw : Cond.methodLink own index y ∈ TB ∧ Cond.instanceMethod y ∈ TB ∧ Cond.selects y.cls y y ∈ TB) (hP : va_P (xD g) vwCl ws H) (hD : va_D (xA b0) ws) (hS : va_S (xA b0) s.heap H locs) {q0 ci : Nat} {fs : List Value} {T : u_T} {N : Nat} (he : ws[q0]? = some (b, .inr (ci, fs))) (hc : vwCl[ci]? = some (y.cls, T, N)) (hl : ls.size = nL) (hR : lev + 1 ≤ R.frames ∧ 40 * lev + 40 ≤ R.locals) (hcs : cells ≤ R.cells ∧ slots ≤ R.slots) (hst : st0 = As.reverse ++ .ref b :: rest) (hcat : (rest.map fun v => v.category).sum ≤ 8) (hdg : decode cc pc = .ok (.invokevirtual index, 3))
    (kk : ∀ r : Int32, post r → W p l e R s m args below meth c H locs cells slots Q (F0 m (pc + 3) ls (.int r :: rest))) : W p l e R s m args below meth c H locs cells slots Q (F0 m pc ls st0) := by
  have hts := E.2.2.2.2.1
  exact vp_callSi (va_Run.run (va_runV (As := As) (rest := rest) ⟨E.1, E.2.1, E.2.2.1, E.2.2.2.1, hts⟩ hM ⟨x_cb E Y hw.1 hR rfl, hts _ hw.2.1, hts _ hw.2.2⟩ (x_preV E hP hD hS he hc) rfl rfl hl hst (lv_room hcat) hdg hcs)) kk
theorem x_cRl (E : xE g b0 cc nL own p s m args meth c) {post : Int64 → Prop} (hM : xRl l g b0 y bytes maxL lev (.ref b :: As) ws post) (Y : xY y bytes maxL (some .long) As.length) (hw : Cond.methodLink own index y ∈ TB ∧ Cond.instanceMethod y ∈ TB ∧ Cond.selects y.cls y y ∈ TB) (hP : va_P (xD g) vwCl ws H) (hD : va_D (xA b0) ws) (hS : va_S (xA b0) s.heap H locs) {q0 ci : Nat} {fs : List Value} {T : u_T} {N : Nat} (he : ws[q0]? = some (b, .inr (ci, fs))) (hc : vwCl[ci]? = some (y.cls, T, N)) (hl : ls.size = nL) (hR : lev + 1 ≤ R.frames ∧ 40 * lev + 40 ≤ R.locals) (hcs : cells ≤ R.cells ∧ slots ≤ R.slots) (hst : st0 = As.reverse ++ .ref b :: rest) (hcat : (rest.map fun v => v.category).sum ≤ 8) (hdg : decode cc pc = .ok (.invokevirtual index, 3))
    (kk : ∀ r : Int64, post r → W p l e R s m args below meth c H locs cells slots Q (F0 m (pc + 3) ls (.long r :: rest))) : W p l e R s m args below meth c H locs cells slots Q (F0 m pc ls st0) := by
  have hts := E.2.2.2.2.1
  exact vp_callSl (va_Run.run (va_runV (As := As) (rest := rest) ⟨E.1, E.2.1, E.2.2.1, E.2.2.2.1, hts⟩ hM ⟨x_cb E Y hw.1 hR rfl, hts _ hw.2.1, hts _ hw.2.2⟩ (x_preV E hP hD hS he hc) rfl rfl hl hst (lv_room hcat) hdg hcs)) kk
/-- invokestatic: R with an int -/
theorem x_cSi (E : xE g b0 cc nL own p s m args meth c) {post : Int32 → Prop} (hM : xRi l g b0 y bytes maxL ret lev As ws post) (Y : xY y bytes maxL ret As.length) (hw : Cond.methodLink own index y ∈ TB ∧ Cond.static y ∈ TB) (hP : va_P (xD g) vwCl ws H) (hD : va_D (xA b0) ws) (hS : va_S (xA b0) s.heap H locs) (hl : ls.size = nL) (hR : lev + 1 ≤ R.frames ∧ 40 * lev + 40 ≤ R.locals) (hcs : cells ≤ R.cells ∧ slots ≤ R.slots) (hst : st0 = As.reverse ++ rest) (hcat : (rest.map fun v => v.category).sum ≤ 8) (hdg : decode cc pc = .ok (.invokestatic index, 3))
    (kk : ∀ r : Int32, post r → W p l e R s m args below meth c H locs cells slots Q (F0 m (pc + 3) ls (.int r :: rest))) : W p l e R s m args below meth c H locs cells slots Q (F0 m pc ls st0) := by
  have hts := E.2.2.2.2.1
  exact vp_callSi (va_Run.run (va_runS (As := As) (rest := rest) ⟨E.1, E.2.1, E.2.2.1, E.2.2.2.1, hts⟩ hM ⟨x_cb E Y hw.1 hR rfl, hts _ hw.2⟩ (x_pre E hP hD hS) rfl rfl hl hst (lv_room hcat) hdg hcs)) kk
/-- invokespecial <init>: mc cells of ms slots come -/
theorem x_cI (E : xE g b0 cc nL own p s m args meth c) {post : va_W → Prop} (hM : xMc l g b0 y bytes maxL lev mc ms (.ref b :: As) ws post) (Y : xY y bytes maxL none As.length) (hw : Cond.methodLink own index y ∈ TB ∧ Cond.instanceMethod y ∈ TB ∧ y.name = "<init>") (hP : va_P (xD g) vwCl ws H) (hD : va_D (xA b0) ws) (hS : va_S (xA b0) s.heap H locs) (hl : ls.size = nL) (hR : lev + 1 ≤ R.frames ∧ 40 * lev + 40 ≤ R.locals) (hcs : cells + mc ≤ R.cells ∧ slots + ms ≤ R.slots) (hst : st0 = As.reverse ++ .ref b :: rest) (hcat : (rest.map fun v => v.category).sum ≤ 8) (hdg : decode cc pc = .ok (.invokespecial index, 3))
    (kk : ∀ (u : va_W) (H1 : Heap) (locs1 : List Loc), post u → va_P (xD g) vwCl u H1 → va_D (xA b0) u → va_S (xA b0) s.heap H1 locs1 → W p l e R s m args below meth c H1 locs1 (cells + mc) (slots + ms) Q (F0 m (pc + 3) ls rest)) : W p l e R s m args below meth c H locs cells slots Q (F0 m pc ls st0) := by
  have hts := E.2.2.2.2.1
  refine va_callv (va_runI (As := As) (rest := rest) ⟨E.1, E.2.1, E.2.2.1, E.2.2.2.1, hts⟩ hM ⟨x_cb E Y hw.1 hR rfl, hw.2.2, hts _ hw.2.1⟩ (x_pre E hP hD hS) rfl rfl hl hst (lv_room hcat) hdg hcs) hS (fun q _ h => h) (fun q h => h) (fun u t H1 locs1 ht hvm hp hB hz hk hS1 => ?_)
  subst ht
  exact kk u _ locs1 hp hB.1 hB.2 hS1
end XCL
