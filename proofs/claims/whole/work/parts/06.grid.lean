/-! new int[N][M]: the outer array, then its rows, one behind another -/
def xg_out (cA : ClassId) (N h i : Nat) : Cell := arrV cA N (fun j => va_rf (if j < i then some (h + 1 + j) else none))
def xg_row (cI : ClassId) (M : Nat) (dv : Value) : Cell := arrV cI M (fun _ => dv)
def xg_st (s : State) (cA cI : ClassId) (N M : Nat) (dv : Value) : Nat → State
  | 0 => s.pushCell (xg_out cA N s.heap.size 0)
  | i + 1 => ((xg_st s cA cI N M dv i).pushCell (xg_row cI M dv)).setCell s.heap.size (xg_out cA N s.heap.size (i + 1))
theorem xg_out_set (cA : ClassId) (N h i : Nat) : (xg_out cA N h i).setSlot i (.ref (h + 1 + i)) = xg_out cA N h (i + 1) := by
  unfold xg_out
  rw [arrV_store]
  refine congrArg (arrV cA N) (funext fun j => ?_)
  by_cases e : j = i
  · subst e
    simp [updV, va_rf]
  · by_cases h1 : j < i
    · simp [updV, e, h1, Nat.lt_succ_of_lt h1]
    · simp [updV, e, h1, show ¬ j < i + 1 by omega]
theorem xg_out_size (cA : ClassId) (N h i : Nat) : (xg_out cA N h i).slots.size = N := arrV_size _ _ _
theorem xg_row_size (cI : ClassId) (M : Nat) (dv : Value) : (xg_row cI M dv).slots.size = M := arrV_size _ _ _
theorem xg_facts (s : State) (cA cI : ClassId) (N M : Nat) (dv : Value) : ∀ i : Nat, (xg_st s cA cI N M dv i).heap.size = s.heap.size + 1 + i ∧ (xg_st s cA cI N M dv i).heap[s.heap.size]? = some (xg_out cA N s.heap.size i) ∧ (xg_st s cA cI N M dv i).vm = s.vm ∧ (xg_st s cA cI N M dv i).slotsUsed = s.slotsUsed + N + i * M
  | 0 => ⟨by simp [xg_st], by simp [xg_st], rfl, by simp [xg_st, xg_out_size]⟩
  | i + 1 => by
    obtain ⟨a, b, d, u⟩ := xg_facts s cA cI N M dv i
    have hlt : s.heap.size < (xg_st s cA cI N M dv i).heap.size := by omega
    have hb' : ((xg_st s cA cI N M dv i).pushCell (xg_row cI M dv)).heap[s.heap.size]? = some (xg_out cA N s.heap.size i) := by
      rw [State.heap_pushCell_of_lt (h := hlt)]
      exact b
    refine ⟨?_, State.heap_setCell_self hb', by simp [xg_st, d], ?_⟩
    · simp [xg_st, State.setCell, a]
      omega
    · simp [xg_st, u, xg_row_size, Nat.succ_mul]
      omega
theorem xg_old (s : State) (cA cI : ClassId) (N M : Nat) (dv : Value) {a : Nat} (ha : a < s.heap.size) : ∀ i : Nat, (xg_st s cA cI N M dv i).heap[a]? = s.heap[a]?
  | 0 => State.heap_pushCell_of_lt _ _ ha
  | i + 1 => by
    have f1 := (xg_facts s cA cI N M dv i).1
    have hlt : a < (xg_st s cA cI N M dv i).heap.size := by omega
    show (((xg_st s cA cI N M dv i).pushCell (xg_row cI M dv)).setCell s.heap.size _).heap[a]? = _
    rw [State.heap_setCell_other (Nat.ne_of_gt ha), State.heap_pushCell_of_lt (h := hlt)]
    exact xg_old s cA cI N M dv ha i
theorem xg_in (s : State) (cA cI : ClassId) (N M : Nat) (dv : Value) : ∀ i j : Nat, j < i → (xg_st s cA cI N M dv i).heap[s.heap.size + 1 + j]? = some (xg_row cI M dv)
  | 0, _, h => absurd h (Nat.not_lt_zero _)
  | i + 1, j, h => by
    have f1 := (xg_facts s cA cI N M dv i).1
    show (((xg_st s cA cI N M dv i).pushCell (xg_row cI M dv)).setCell s.heap.size _).heap[s.heap.size + 1 + j]? = _
    rw [State.heap_setCell_other (show s.heap.size ≠ s.heap.size + 1 + j by omega)]
    rcases Nat.lt_or_ge j i with hj | hj
    · have hlt : s.heap.size + 1 + j < (xg_st s cA cI N M dv i).heap.size := by omega
      rw [State.heap_pushCell_of_lt (h := hlt)]
      exact xg_in s cA cI N M dv i j hj
    · have e : j = i := by omega
      subst e
      rw [← f1]
      exact State.heap_pushCell_size _ _
theorem xg_top (s : State) (f : JFrame) (cA cI : ClassId) (N M : Nat) (dv : Value) : ∀ i : Nat, xg_st (s.setTop f) cA cI N M dv i = (xg_st s cA cI N M dv i).setTop f
  | 0 => rfl
  | i + 1 => by simp only [xg_st, xg_top s f cA cI N M dv i, State.heap_setTop, State.pushCell_setTop, State.setCell_setTop]
section XGW
variable {E : CtlPost} {e : Env} {d : Bool} {acts : List Action} {s : State}
/-- one array, by the model -/
theorem xg_newArray {c comp : ClassId} {k : Class} {type : FieldType} {len : Nat} {init : Value} (hk : s.vm.classes[c]? = some k) (hkind : k.kind = .array comp type)
    (hlimit : ¬ len > e.platform.arrayLengthLimit) (hheap : ¬ len * componentBytes type > e.platform.maxHeapBytes) (hfit : fits type init = true) (hdef : init.isDefault = true) {Q : Addr → Pre}
    (h1 : s.heap.size < e.platform.maxCells) (h2 : s.slotsUsed + len ≤ e.platform.maxSlots) (hq : Q s.heap.size d acts (s.pushCell (arrV c len (fun _ => init)))) : wp (Jvm.newArray c len init) Q E e d acts s := by
  rw [← arrV_new] at hq
  have hfits : ∀ i v, (Array.replicate len init)[i]? = some v → s.fitsSlot c .none i v = true := by
    intro i v hv
    simp only [Array.getElem?_replicate] at hv
    split at hv
    · cases hv
      simp [State.fitsSlot, State.slotType?, hk, hkind, hfit]
    · cases hv
  have hda : allocActs (Array.replicate len init) s.heap.size acts = acts := by
    have hall : ((Array.replicate len init).all (·.isDefault)) = true := by
      rw [Array.all_replicate]
      split <;> simp [hdef]
    unfold allocActs
    rw [if_pos hall]
  simp only [Jvm.newArray, Jvm.arrayFits, wp_bind', W.ask, W.ite, hlimit, if_false, wp_pure', W.theClass, hk, hkind, hheap, W.alloc, W.stop, Option.some.injEq, exists_eq_left', Array.size_replicate, hda]
  rw [if_neg (by omega)]
  exact ⟨h1, h2, hfits, hq⟩
theorem xg_make {cA cI cc : ClassId} {kA kI : Class} {n m : Int32} (hkA : s.vm.classes[cA]? = some kA) (hkindA : kA.kind = .array cI (.array .int)) (hkI : s.vm.classes[cI]? = some kI) (hkindI : kI.kind = .array cc .int) (hn : ¬ n < 0) (hm : ¬ m < 0)
    (hl1 : ¬ n.toNatClampNeg > e.platform.arrayLengthLimit) (hh1 : ¬ n.toNatClampNeg * componentBytes (.array .int) > e.platform.maxHeapBytes) (hl2 : ¬ m.toNatClampNeg > e.platform.arrayLengthLimit) (hh2 : ¬ m.toNatClampNeg * componentBytes .int > e.platform.maxHeapBytes)
    (hc : s.heap.size + 1 + n.toNatClampNeg ≤ e.platform.maxCells) (hs : s.slotsUsed + n.toNatClampNeg + n.toNatClampNeg * m.toNatClampNeg ≤ e.platform.maxSlots)
    {Q : Addr → Pre} (hq : ∀ d' acts', Q s.heap.size d' acts' (xg_st s cA cI n.toNatClampNeg m.toNatClampNeg (.int 0) n.toNatClampNeg)) : wp (multianewarray.make cA [n, m]) Q E e d acts s := by
  have hfind : ([m].find? (· < 0)) = none := by simp [hm]
  have hz : ∀ h, xg_out cA n.toNatClampNeg h 0 = arrV cA n.toNatClampNeg (fun _ => .null) := fun h => by
    unfold xg_out
    refine congrArg (arrV cA _) (funext fun j => ?_)
    simp [va_rf]
  rw [multianewarray.make]
  simp only [wp_bind', W.ite, hn, if_false, wp_pure', W.theClass, hkA, hkindA, Option.some.injEq, exists_eq_left']
  refine xg_newArray hkA hkindA hl1 hh1 rfl rfl (by omega) (by have := Nat.zero_le (n.toNatClampNeg * m.toNatClampNeg); omega) ?_
  simp only [hfind]
  rw [ite_self, wp_bind', Std.Legacy.Range.forIn_eq_forIn_range']
  have hsz : ([:n.toNatClampNeg] : Std.Legacy.Range).size = n.toNatClampNeg := by simp [Std.Legacy.Range.size]
  rw [hsz]
  show wp (forIn (List.range' 0 n.toNatClampNeg 1) PUnit.unit _) _ E e d acts _
  refine wp_forIn_inv (fun rest s' => ∃ i, i ≤ n.toNatClampNeg ∧ rest = List.range' i (n.toNatClampNeg - i) ∧ s' = xg_st s cA cI n.toNatClampNeg m.toNatClampNeg (.int 0) i) _ _ ⟨0, Nat.zero_le _, rfl, by rw [← hz]; rfl⟩ ?_ ?_
  · rintro x rest s' d' acts' Q' ⟨i, hi, hl, rfl⟩ hnext
    have hlt : i < n.toNatClampNeg := by
      rcases Nat.lt_or_ge i n.toNatClampNeg with h | h
      · exact h
      · rw [show n.toNatClampNeg - i = 0 from by omega] at hl
        simp at hl
    obtain ⟨rfl, hrest⟩ : x = i ∧ rest = List.range' (i + 1) (n.toNatClampNeg - (i + 1)) := by
      rw [show n.toNatClampNeg - i = (n.toNatClampNeg - (i + 1)) + 1 from by omega, List.range'_succ] at hl
      exact ⟨(List.cons.inj hl).1, (List.cons.inj hl).2⟩
    obtain ⟨f1, f2, f3, f4⟩ := xg_facts s cA cI n.toNatClampNeg m.toNatClampNeg (.int 0) x
    have hmul : x * m.toNatClampNeg + m.toNatClampNeg ≤ n.toNatClampNeg * m.toNatClampNeg := by
      have := Nat.mul_le_mul_right m.toNatClampNeg (show x + 1 ≤ n.toNatClampNeg from hlt)
      rw [Nat.succ_mul] at this
      exact this
    simp only [wp_bind']
    rw [multianewarray.make]
    simp only [wp_bind', W.ite, hm, if_false, wp_pure', W.theClass, f3, hkI, hkindI, Option.some.injEq, exists_eq_left']
    refine xg_newArray (by rw [f3]; exact hkI) hkindI hl2 hh2 rfl rfl (by rw [f1]; omega) (by rw [f4]; omega) ?_
    have hlt0 : s.heap.size < (xg_st s cA cI n.toNatClampNeg m.toNatClampNeg (.int 0) x).heap.size := by rw [f1]; omega
    simp only [wp_bind', W.writeLoc, wp_pure']
    refine ⟨xg_out cA n.toNatClampNeg s.heap.size x, (by rw [State.heap_pushCell_of_lt (h := hlt0)]; exact f2), (fun h => by cases h), (by rw [xg_out_size]; exact hlt), ?_, hnext _ _ _ ⟨x + 1, hlt, hrest, ?_⟩⟩
    · show State.fitsSlot _ cA .none _ _ = true
      simp [State.fitsSlot, State.slotType?, f3, hkA, hkindA, fits]
    · rw [f1, xg_out_set]
      rfl
  · rintro s' d' acts' ⟨i, hi, hl, rfl⟩
    have hiN : i = n.toNatClampNeg := by
      rcases Nat.lt_or_ge i n.toNatClampNeg with h | h
      · rw [show n.toNatClampNeg - i = (n.toNatClampNeg - (i + 1)) + 1 from by omega, List.range'_succ] at hl
        cases hl
      · omega
    subst hiN
    simp only [wp_pure']
    exact hq _ _
end XGW
section XGR
variable {p : Program} {l : Launch} {e : Env} {R : Room} {s : State} {m : MethodId} {args : Array Value} {below : List Frame} {meth : Method} {c : Code} {H : Heap} {locs : List Loc} {cells slots : Nat} {Q : State → Prop} {T : State}
theorem xg_stand (X : Stand p l e R s m args below meth c T locs cells slots) (cA cI : ClassId) (N M : Nat) (dv : Value) : ∀ i : Nat, Stand p l e R s m args below meth c (xg_st T cA cI N M dv i) (locs ++ (List.range i).map fun j => ⟨T.heap.size, j⟩) (cells + 1 + i) (slots + N + i * M)
  | 0 => by
    have h := X.pushed (xg_out cA N T.heap.size 0)
    rw [xg_out_size] at h
    simpa [xg_st] using h
  | i + 1 => by
    have Xi := xg_stand X cA cI N M dv i
    obtain ⟨f1, f2, f3, f4⟩ := xg_facts T cA cI N M dv i
    have hlt0 : T.heap.size < (xg_st T cA cI N M dv i).heap.size := by rw [f1]; omega
    have hcell : ((xg_st T cA cI N M dv i).pushCell (xg_row cI M dv)).heap[T.heap.size]? = some (xg_out cA N T.heap.size i) := by
      rw [State.heap_pushCell_of_lt (h := hlt0)]
      exact f2
    have h := (Xi.pushed (xg_row cI M dv)).stored hcell i (.ref (T.heap.size + 1 + i))
    rw [xg_row_size, xg_out_set] at h
    have e2 : (locs ++ (List.range (i + 1)).map fun j => (⟨T.heap.size, j⟩ : Loc)) = (locs ++ (List.range i).map fun j => (⟨T.heap.size, j⟩ : Loc)) ++ [⟨T.heap.size, i⟩] := by simp [List.range_succ, List.append_assoc]
    have e3 : slots + N + (i + 1) * M = slots + N + i * M + M := by rw [Nat.succ_mul]; omega
    rw [e2, e3]
    exact h
/-- the instruction -/
theorem xg_mna {cc : ByteArray} (hexec : p.tables.exec = Jvm.exec) (hb : c.code = cc) {own : String} {index : Nat} (hown : s.vm.findClass own = some m.cls) (hclink : (Cond.classLink own index "[[I").before args s = true) {cA cI' : ClassId} {kA : Class} (hcA : s.vm.findClass "[[I" = some cA) (hcI : s.vm.findClass "[I" = some cI') (hkA : s.vm.classes[cA]? = some kA) (hkindA : kA.kind = .array cI' (.array .int)) (harr : (Cond.arrayClass .int).before args s = true)
    {pc : Nat} {ls : Array Slot} {rest : List Value} {n k : Int32} {N M : Nat} (hn : ¬ n < 0) (hk : ¬ k < 0) (hN : n.toNatClampNeg = N) (hM : k.toNatClampNeg = M) (hb1 : N * 4 ≤ 536870912) (hb2 : M * 4 ≤ 536870912) (hcells : cells + (1 + N) ≤ R.cells) (hslots : slots + (N + N * M) ≤ R.slots) (hdg : decode cc pc = .ok (.multianewarray index 2, 4))
    (kk : ∀ (H1 : Heap), H1.size = H.size + 1 + N → H1[H.size]? = some (arrV cA N (fun j => va_rf (if j < N then some (H.size + 1 + j) else none))) → (∀ j : Nat, j < N → H1[H.size + 1 + j]? = some (arrV cI' M (fun _ => .int 0))) → (∀ q : Nat, q < H.size → H1[q]? = H[q]?) →
      W p l e R s m args below meth c H1 locs (cells + 1 + N) (slots + N + N * M) Q (F0 m (pc + 4) ls (.ref H.size :: rest))) : W p l e R s m args below meth c H locs cells slots Q (F0 m pc ls (.int k :: .int n :: rest)) := by
  intro T hT X
  subst hN
  subst hM
  subst hb
  have hpl : e.platform.magicAccessors = ({} : Platform).magicAccessors := by rw [X.admits.platform]
  obtain ⟨cI2, kI, cc, hcI2, hkI, hkindI⟩ := Cond.arrayClass_spec harr
  have eI : cI2 = cI' := Option.some.inj (hcI2.symm.trans hcI)
  subst eI
  obtain ⟨c0, hfc0, hcl⟩ := Cond.classLink_spec hown hclink e.platform hpl
  cases hcA.symm.trans hfc0
  obtain ⟨hg₁, hwarm₁, hready₁⟩ := State.classEntry (e := e) X.warmed hcl
  generalize T.vm.noted m.cls index (.cls cA) = vm₁ at hg₁ hwarm₁ hready₁
  have hal : s.vm.Alike vm₁ := hwarm₁.alike
  obtain ⟨kA₁, hkA₁, heA⟩ := hal.2.2 _ _ hkA
  obtain ⟨kI₁, hkI₁, heI⟩ := hal.2.2 _ _ hkI
  have hkindA₁ : kA₁.kind = .array cI2 (.array .int) := by rw [heA]; exact hkindA
  have hkindI₁ : kI₁.kind = .array cc .int := by rw [heI]; exact hkindI
  have X₁ := X.noted hwarm₁
  obtain ⟨hr1, hr2⟩ := X.roomAbove hcells hslots
  have XF := xg_stand X₁ cA cI2 n.toNatClampNeg k.toNatClampNeg (.int 0) n.toNatClampNeg
  have XD := XF.dropFresh (fun x hx => by
    obtain ⟨j, -, rfl⟩ := List.mem_map.mp hx
    exact X.heapGrown)
  obtain ⟨f1, f2, f3, f4⟩ := xg_facts (T.setVm vm₁) cA cI2 n.toNatClampNeg k.toNatClampNeg (.int 0) n.toNatClampNeg
  have hTh : (T.setVm vm₁).heap = H := hT
  have f5 := xg_in (T.setVm vm₁) cA cI2 n.toNatClampNeg k.toNatClampNeg (.int 0) n.toNatClampNeg
  have f6 := fun (q : Nat) (hq : q < (T.setVm vm₁).heap.size) => xg_old (T.setVm vm₁) cA cI2 n.toNatClampNeg k.toNatClampNeg (.int 0) hq n.toNatClampNeg
  rw [hTh] at f1 f2 f5 f6
  obtain ⟨t', a1, b1⟩ := kk _ f1 f2 f5 f6 _ rfl XD
  refine ⟨t', ?_, b1⟩
  have hl1 : ¬ n.toNatClampNeg > e.platform.arrayLengthLimit := by rw [Launch.admits_arrayLengthLimit X.admits]; omega
  have hh1 : ¬ n.toNatClampNeg * componentBytes (.array .int) > e.platform.maxHeapBytes := by
    rw [Launch.admits_maxHeapBytes X.admits]
    show ¬ n.toNatClampNeg * 4 > 536870912
    omega
  have hl2 : ¬ k.toNatClampNeg > e.platform.arrayLengthLimit := by rw [Launch.admits_arrayLengthLimit X.admits]; omega
  have hh2 : ¬ k.toNatClampNeg * componentBytes .int > e.platform.maxHeapBytes := by
    rw [Launch.admits_maxHeapBytes X.admits]
    show ¬ k.toNatClampNeg * 4 > 536870912
    omega
  jvm_step X.here [hexec, hdg]
  simp only [multianewarray.sem, wp_bind', W.resolveClassAt_links (State.method?_setTop (F0 m pc ls (.int k :: .int n :: rest)) X.here.top) hg₁]
  rw [W.popN, if_neg (by decide)]
  refine ⟨F0 m pc ls (.int k :: .int n :: rest), State.topJava?_setTop' (s := T.setVm vm₁) _ X.here.top, [.int n, .int k], rest, rfl, rfl, ?_⟩
  simp only [List.mapM_cons, List.mapM_nil, wp_bind', wp_pure']
  refine xg_make (kA := kA₁) (kI := kI₁) (cc := cc) hkA₁ hkindA₁ hkI₁ hkindI₁ hn hk hl1 hh1 hl2 hh2 (by show T.heap.size + 1 + _ ≤ _; omega) (by show T.slotsUsed + _ + _ ≤ _; omega) (fun d' acts' => ?_)
  have eS : ((T.setTop (F0 m pc ls (.int k :: .int n :: rest))).setVm vm₁).setTop { F0 m pc ls (.int k :: .int n :: rest) with stack := rest } = (T.setVm vm₁).setTop { F0 m pc ls (.int k :: .int n :: rest) with stack := rest } := by
    show ((T.setVm vm₁).setTop _).setTop _ = _
    rw [State.setTop_setTop]
  rw [eS, xg_top]
  simp only [wp_bind', W.mark, W.pushRef, State.topJava?_setTop' _ XF.here.top, Option.some.injEq, exists_eq_left', State.setTop_setTop, State.heap_setTop]
  intro acts
  simp [jvm, XF.here.top]
  have hz : T.heap.size = H.size := by rw [hT]
  rw [← hz] at a1
  exact a1
end XGR
