/-! what a constructor makes: a new cell stands behind the world's last place -/
theorem wq_oi : Cond.instanceMethod Lib.objectInit ∈ TB := tb_h 31 (by decide +kernel) (by decide +kernel)
theorem wq_oc : Cond.code Lib.objectInit ⟨#[0xb1]⟩ 1 none ∈ TB := tb_h 32 (by decide +kernel) (by decide +kernel)
theorem xU.new {ws : va_W} {x : Nat × va_E} : xU ws ws.length x (ws ++ [x]) := ⟨by simp, fun k hk => by
  rcases Nat.lt_or_ge k ws.length with h | h
  · rw [List.getElem?_append_left h]
  · rw [List.getElem?_append_right h, List.getElem?_eq_none (by simp; omega), List.getElem?_eq_none (by omega)]⟩
theorem xU.len {ws w1 : va_W} {q : Nat} {y x : Nat × va_E} (h : xU ws q x w1) (hy : ws[q]? = some y) : w1.length = ws.length := by
  have hq : q < ws.length := (List.getElem?_eq_some_iff.mp hy).1
  have hq1 : q < w1.length := (List.getElem?_eq_some_iff.mp h.1).1
  have a1 : ¬ ws.length < w1.length := fun hl => by
    have e := h.2 ws.length (by omega)
    rw [List.getElem?_eq_none (Nat.le_refl ws.length), List.getElem?_eq_none_iff] at e
    omega
  have a2 : ¬ w1.length < ws.length := fun hl => by
    have e := h.2 w1.length (by omega)
    rw [List.getElem?_eq_none (Nat.le_refl w1.length)] at e
    have := List.getElem?_eq_none_iff.mp e.symm
    omega
  omega
theorem xQ.len {lo hi : Nat} {ws w1 : va_W} (hq : xQ lo hi ws w1) {n k : Nat} (hl : ws.length = n) (hh : hi ≤ n) {x : Nat × va_E} (hx : w1[k]? = some x) (hk : k + 1 = n) : w1.length = n := by
  have a1 : k < w1.length := (List.getElem?_eq_some_iff.mp hx).1
  have a2 := hq n (Or.inr hh)
  rw [List.getElem?_eq_none (by omega : ws.length ≤ n)] at a2
  have a3 := List.getElem?_eq_none_iff.mp a2
  omega
theorem x_ra {s : State} {c1 c2 : ClassId} {ty : FieldType} (ho : ∀ C, ty ≠ .object C) (h1 : va_RA s c1 ty) (h2 : va_RA s c2 ty) : c1 = c2 := by
  cases ty <;> first | exact absurd rfl (ho _) | exact Option.some.inj (h1.symm.trans h2)
section XNW
variable {p : Program} {l : Launch} {e : Env} {R : Room} {s : State} {m : MethodId} {args : Array Value} {below : List Frame} {meth : Method} {c : Code} {H : Heap} {locs : List Loc} {cells slots : Nat} {Q : State → Prop}
variable {cc : ByteArray} {pc nL : Nat} {ls : Array Slot} {rest : List Value} {g : xG} {b0 : Nat} {ws : va_W} {own : String}
theorem x_up (E : xE g b0 cc nL own p s m args meth c) (hb : b0 ≤ s.heap.size) : ∀ q, s.heap.size ≤ q → xA b0 q := fun q h => Nat.le_trans hb h
theorem x_obj0 (E : xE g b0 cc nL own p s m args meth c) {idx a : Nat} (hlink : Cond.methodLink own idx Lib.objectInit ∈ TB) (hl : ls.size = nL) (hd : decode cc pc = .ok (.invokespecial idx, 3)) (hR : 1 ≤ R.frames ∧ 40 ≤ R.locals) (hc : (rest.map fun v => v.category).sum ≤ 8)
    (kk : W p l e R s m args below meth c H locs cells slots Q (F0 m (pc + 3) ls rest)) : W p l e R s m args below meth c H locs cells slots Q (F0 m pc ls (.ref a :: rest)) := by
  have hts := E.2.2.2.2.1
  have h8 := lv_room (m := m) (pc := pc) (ls := ls) (rest := .ref a :: rest) hc
  exact W.objInit E.1 E.2.1 E.2.2.2.1 (hts _ hlink) (hts _ wq_oi) (hts _ wq_oc) rfl (hl.trans E.2.2.1.symm) rfl hd hR.1 (by omega) kk
theorem x_newa (E : xE g b0 cc nL own p s m args meth c) (hP : va_P (xD g) vwCl ws H) (hD : va_D (xA b0) ws) (hS : va_S (xA b0) s.heap H locs) {atype : ArrayType} {ty : FieldType} (hty : newarray.typeOf atype = ty) (hw : Cond.arrayClass ty ∈ TB) {cls : ClassId} (t0 : Nat) (ht : (xT g)[t0]? = some (cls, ty)) (ho : ∀ C, ty ≠ .object C)
    {n : Int32} {N' : Nat} {a0 : vp_A} (ha : ∀ cA : ClassId, vp_cell cA a0 = arrV cA N' (fun _ => defaultValue ty)) (hn : ¬ n < 0) (hN : n.toNatClampNeg = N') (hbytes : N' * componentBytes ty ≤ 536870912) (hcells : cells + 1 ≤ R.cells) (hslots : slots + N' ≤ R.slots) (hdg : decode cc pc = .ok (.newarray atype, 2))
    (kk : ∀ (a : Nat) (w1 : va_W) (H1 : Heap), xU ws ws.length (a, .inl (cls, a0)) w1 → w1.length = ws.length + 1 → va_P (xD g) vwCl w1 H1 → va_D (xA b0) w1 → va_S (xA b0) s.heap H1 locs → W p l e R s m args below meth c H1 locs (cells + 1) (slots + N') Q (F0 m (pc + 2) ls (.ref a :: rest))) : W p l e R s m args below meth c H locs cells slots Q (F0 m pc ls (.int n :: rest)) := by
  refine va_newa E.1 E.2.1 (by rw [hty]; exact E.2.2.2.2.1 _ hw) hty E.2.2.2.2.2.1 hP hD hS (x_up E E.2.2.2.2.2.2.2.1) ha hn hN hbytes hcells hslots hdg (fun q cA H1 hK1 hP1 hD1 hS1 => ?_)
  have e1 : cA = cls := x_ra ho (hK1.2 5 _ rfl).2 (E.2.2.2.2.2.1.2 t0 _ ht).2
  subst e1
  exact kk q _ H1 xU.new (by simp) hP1 hD1 hS1
theorem x_new (E : xE g b0 cc nL own p s m args meth c) (hP : va_P (xD g) vwCl ws H) (hD : va_D (xA b0) ws) (hS : va_S (xA b0) s.heap H locs) {C : String} {T : u_T} {N ci index : Nat} (hc : vwCl[ci]? = some (C, T, N)) (hin : ∀ w ∈ u_ws C T N, w ∈ TB) {ty : Nat → FieldType} (hty : ∀ k, k < N → parseFieldDescriptor (T k).2.2.1 = some (ty k)) (hl : Cond.classLink own index C ∈ TB) (hi : Cond.instantiable C N ∈ TB) (hini : Cond.initialized C ∈ TB)
    {fs : List Value} (hfs : ∀ j, j < N → defaultValue (ty j) = vp_V fs j) (hcells : cells + 1 ≤ R.cells) (hslots : slots + N ≤ R.slots) (hdg : decode cc pc = .ok (.new index, 3))
    (kk : ∀ (a : Nat) (w1 : va_W) (H1 : Heap), xU ws ws.length (a, .inr (ci, fs)) w1 → w1.length = ws.length + 1 → va_P (xD g) vwCl w1 H1 → va_D (xA b0) w1 → va_S (xA b0) s.heap H1 locs → W p l e R s m args below meth c H1 locs (cells + 1) (slots + N) Q (F0 m (pc + 3) ls (.ref a :: rest))) : W p l e R s m args below meth c H locs cells slots Q (F0 m pc ls rest) :=
  va_new E.1 E.2.1 E.2.2.2.2.1 hin ty hty E.2.2.2.1 (E.2.2.2.2.1 _ hl) (E.2.2.2.2.1 _ hi) (E.2.2.2.2.1 _ hini) E.2.2.2.2.2.1 hP hD hS (x_up E E.2.2.2.2.2.2.2.1) hc hfs hcells hslots hdg (fun q H1 hP1 hD1 hS1 => kk q _ H1 xU.new (by simp) hP1 hD1 hS1)
/-- new int[N][M] -/
theorem x_mna (E : xE g b0 cc nL own p s m args meth c) (hP : va_P (xD g) vwCl ws H) (hD : va_D (xA b0) ws) (hS : va_S (xA b0) s.heap H locs) {index : Nat} (hl : Cond.classLink own index "[[I" ∈ TB)
    {n k : Int32} {N M : Nat} (hn : ¬ n < 0) (hk : ¬ k < 0) (hN : n.toNatClampNeg = N) (hM : k.toNatClampNeg = M) (hb1 : N * 4 ≤ 536870912) (hb2 : M * 4 ≤ 536870912) (hcells : cells + (1 + N) ≤ R.cells) (hslots : slots + (N + N * M) ≤ R.slots) (hdg : decode cc pc = .ok (.multianewarray index 2, 4))
    (kk : ∀ (a : Nat) (r : Nat → Nat) (w1 : va_W) (H1 : Heap), w1[ws.length]? = some (a, .inl (cG g, N, .inr (.inr (.inr (.inr (fun j => some (r j))))))) → (∀ j, j < N → w1[ws.length + 1 + j]? = some (r j, .inl (cI g, M, .inl (fun _ => 0)))) → (∀ j, j < ws.length → w1[j]? = ws[j]?) → w1.length = ws.length + 1 + N → va_P (xD g) vwCl w1 H1 → va_D (xA b0) w1 → va_S (xA b0) s.heap H1 locs → W p l e R s m args below meth c H1 locs (cells + (1 + N)) (slots + (N + N * M)) Q (F0 m (pc + 4) ls (.ref a :: rest))) : W p l e R s m args below meth c H locs cells slots Q (F0 m pc ls (.int k :: .int n :: rest)) := by
  have hts := E.2.2.2.2.1
  obtain ⟨kA, hkA, hkind⟩ := E.2.2.2.2.2.2.1.2.2.2.2
  refine xg_mna E.1 E.2.1 E.2.2.2.1 (hts _ hl) (E.2.2.2.2.2.1.2 2 _ rfl).2 (E.2.2.2.2.2.1.2 0 _ rfl).2 hkA hkind (hts _ wa_int) hn hk hN hM hb1 hb2 hcells hslots hdg (fun H1 z e1 e2 o1 => ?_)
  have hk0 : ∀ (i : Nat) (x : Nat × va_E), ws[i]? = some x → H1[x.1]? = H[x.1]? := fun i x hx => o1 x.1 ((hP i x hx).lt)
  have hlt : ∀ (i : Nat) (x : Nat × va_E), ws[i]? = some x → x.1 < H.size := fun i x hx => (hP i x hx).lt
  generalize hX : (H.size, (.inl (cG g, N, .inr (.inr (.inr (.inr (fun j => some (H.size + 1 + j)))))) : va_E)) = X
  have hrow : ∀ j, ((List.range N).map (fun j => (H.size + 1 + j, (.inl (cI g, M, .inl (fun _ => 0)) : va_E))))[j]? = if j < N then some (H.size + 1 + j, .inl (cI g, M, .inl (fun _ => 0))) else none := fun j => by
    by_cases h : j < N
    · rw [if_pos h]; simp [h]
    · rw [if_neg h]; simp; omega
  generalize hRw : (List.range N).map (fun j => (H.size + 1 + j, (.inl (cI g, M, .inl (fun _ => 0)) : va_E))) = Rw at hrow
  have hRl : Rw.length = N := by rw [← hRw]; simp
  have a0 : ∀ j, j < ws.length → (ws ++ X :: Rw)[j]? = ws[j]? := fun j hj => List.getElem?_append_left hj
  have a1 : (ws ++ X :: Rw)[ws.length]? = some X := by rw [List.getElem?_append_right (Nat.le_refl _)]; simp
  have a2 : ∀ j, (ws ++ X :: Rw)[ws.length + 1 + j]? = Rw[j]? := fun j => by
    rw [List.getElem?_append_right (by omega), show ws.length + 1 + j - ws.length = j + 1 by omega, List.getElem?_cons_succ]
  have cases3 : ∀ (i : Nat) (x : Nat × va_E), (ws ++ X :: Rw)[i]? = some x → (i < ws.length ∧ ws[i]? = some x) ∨ (i = ws.length ∧ x = X) ∨ (∃ j, j < N ∧ i = ws.length + 1 + j ∧ x = (H.size + 1 + j, .inl (cI g, M, .inl (fun _ => 0)))) := fun i x hx => by
    rcases Nat.lt_trichotomy i ws.length with h | h | h
    · exact Or.inl ⟨h, by rw [← a0 i h]; exact hx⟩
    · subst h
      rw [a1] at hx
      exact Or.inr (Or.inl ⟨rfl, (Option.some.inj hx).symm⟩)
    · obtain ⟨j, rfl⟩ : ∃ j, i = ws.length + 1 + j := ⟨i - ws.length - 1, by omega⟩
      rw [a2, hrow] at hx
      by_cases hj : j < N
      · rw [if_pos hj] at hx
        exact Or.inr (Or.inr ⟨j, hj, rfl, (Option.some.inj hx).symm⟩)
      · rw [if_neg hj] at hx
        cases hx
  have hPn : va_P (xD g) vwCl (ws ++ X :: Rw) H1 := fun i x hx => by
    rcases cases3 i x hx with ⟨h1, h2⟩ | ⟨h1, h2⟩ | ⟨j, h1, h2, h3⟩
    · exact (hP i x h2).kept (hk0 i x h2)
    · rw [h2, ← hX]
      show H1[H.size]? = some (vp_cell _ _)
      rw [e1, vp_cell_q]
      refine congrArg some ?_
      unfold arrV
      congr 1
      refine congrArg Array.ofFn (funext fun q => ?_)
      show va_rf (if (q : Nat) < N then some (H.size + 1 + (q : Nat)) else none) = va_rf (some (H.size + 1 + (q : Nat)))
      rw [if_pos q.isLt]
    · rw [h3]
      show H1[H.size + 1 + j]? = some (vp_cell _ _)
      rw [e2 j h1]
      rfl
  have hup := x_up E E.2.2.2.2.2.2.2.1
  have hDn : va_D (xA b0) (ws ++ X :: Rw) := by
    refine ⟨fun i j x y hi hj he => ?_, fun i x hx => ?_⟩
    · rcases cases3 i x hi with ⟨h1, h2⟩ | ⟨h1, h2⟩ | ⟨j1, h1, h2, h3⟩ <;> rcases cases3 j y hj with ⟨k1, k2⟩ | ⟨k1, k2⟩ | ⟨j2, k1, k2, k3⟩
      · exact hD.1 i j x y h2 k2 he
      · have := hlt i x h2
        rw [he, k2, ← hX] at this
        exact absurd this (Nat.lt_irrefl _)
      · have := hlt i x h2
        rw [he, k3] at this
        simp only at this
        omega
      · have := hlt j y k2
        rw [← he, h2, ← hX] at this
        exact absurd this (Nat.lt_irrefl _)
      · omega
      · rw [h2, k3, ← hX] at he
        simp only at he
        omega
      · have := hlt j y k2
        rw [← he, h3] at this
        simp only at this
        omega
      · rw [h3, k2, ← hX] at he
        simp only at he
        omega
      · rw [h3, k3] at he
        simp only at he
        omega
    · rcases cases3 i x hx with ⟨h1, h2⟩ | ⟨h1, h2⟩ | ⟨j, h1, h2, h3⟩
      · exact hD.2 i x h2
      · rw [h2, ← hX]
        exact hup _ hS.1
      · rw [h3]
        exact hup _ (Nat.le_trans hS.1 (by simp only; omega))
  have hSn : va_S (xA b0) s.heap H1 locs := ⟨Nat.le_trans hS.1 (by omega), fun q h1 h2 => (o1 q (Nat.lt_of_lt_of_le h1 hS.1)).trans (hS.2.1 q h1 h2), hS.2.2⟩
  have key := kk H.size (fun j => H.size + 1 + j) (ws ++ X :: Rw) H1 (by rw [a1, hX]) (fun j hj => by rw [a2, hrow, if_pos hj]) a0 (by simp [hRl]; omega) hPn hDn hSn
  rw [show cells + (1 + N) = cells + 1 + N by omega, show slots + (N + N * M) = slots + N + N * M by omega] at key
  exact key
end XNW
