/-! what stands at the law's entry -/
theorem lw_arr {args : Array Value} {s : State} {ty : FieldType} (h : (Cond.arrayClass ty).before args s = true) : ∃ cA : ClassId, ArrOfT s cA ty ∧ s.vm.findClass ("[" ++ ty.toString) = some cA := by
  obtain ⟨cA, k, comp, h1, h2, h3⟩ := Cond.arrayClass_spec h
  exact ⟨cA, fun n z => ⟨fun k h => (by cases h), k, h2, comp, h3⟩, h1⟩
theorem lw_tab {args : Array Value} {s : State} {nm d : String} {ty : FieldType} {f : Nat → Int32} {A : Nat → Prop} (hl : (Cond.laysStatic R_MT nm d).before args s = true) (hini : (Cond.initialized R_MT).before args s = true)
    (harr : (Cond.arrayOf (.static R_MT nm d) ty).before args s = true) (hlen : (Cond.eq (.length (.static R_MT nm d)) (.int 5)).before args s = true)
    (h0 : (Cond.eq (.elem (.static R_MT nm d) (.int 0)) (.int (f 0))).before args s = true) (h1 : (Cond.eq (.elem (.static R_MT nm d) (.int 1)) (.int (f 1))).before args s = true) (h2 : (Cond.eq (.elem (.static R_MT nm d) (.int 2)) (.int (f 2))).before args s = true) (h3 : (Cond.eq (.elem (.static R_MT nm d) (.int 3)) (.int (f 3))).before args s = true) (h4 : (Cond.eq (.elem (.static R_MT nm d) (.int 4)) (.int (f 4))).before args s = true) (hA : ∀ a : Nat, a < s.heap.size → ¬ A a) :
    ∃ t : Nat, va_Z R_MT nm d (.ref t) A s s.heap ∧ va_T ty t 5 (fun j => .int (f j)) A s s.heap := by
  obtain ⟨t, ht, hT⟩ := va_Tof (tm := .static R_MT nm d) (ty := ty) (N := 5) (f := fun j => .int (f j)) (A := A) (by decide) harr (va_eqt hlen) (fun j hj => by
    obtain rfl | rfl | rfl | rfl | rfl : j = 0 ∨ j = 1 ∨ j = 2 ∨ j = 3 ∨ j = 4 := by omega
    · exact va_eqt h0
    · exact va_eqt h1
    · exact va_eqt h2
    · exact va_eqt h3
    · exact va_eqt h4) hA
  exact ⟨t, va_Zof hl hini ht hA, hT⟩
theorem lw_env {p : Program} {s : State} {m : MethodId} {meth : Method} {c : Code} {b L : Nat} {xs : Nat → Int32} (C0 : lw_At p s m meth c b L xs) : ∃ g : xG, xE g s.heap.size code 4 R_Lw p s m #[Value.ref b] meth c := by
  obtain ⟨hx, hb, hr, hml, hown, hts, hX, hbl, hlocks, hgv⟩ := C0
  have hfl := flat_of_before _ hgv
  have htb : ∀ w ∈ TB, w.before #[Value.ref b] s = true := fun w hw => hts w (List.mem_filter.mp hw).1
  have hA : ∀ a : Nat, a < s.heap.size → ¬ xA s.heap.size a := fun a h q => absurd (show s.heap.size ≤ a from q) (by omega)
  obtain ⟨aI, rI, nI'⟩ := lw_arr (htb _ wa_int)
  obtain ⟨aC, rC', nC⟩ := lw_arr (htb _ wa_char)
  obtain ⟨aZ, rZ, nZ⟩ := lw_arr (htb _ wa_boolean)
  obtain ⟨aL, rL, nL⟩ := lw_arr (htb _ wa_long)
  obtain ⟨comp, aG, kG, g1, -, g3, g4, g5⟩ := arrayOverA_spec (t := .int) (hts (.arrayOver (.array .int)) (by decide +kernel))
  have hcomp : comp = aI := Option.some.inj (g1.symm.trans (show s.vm.findClass (FieldType.array FieldType.int).toString = some aI from nI'))
  obtain ⟨c0, i0, hK0⟩ := u_known (C := R_MT) (T := F_MT) (N := 6) (n := 6) htb cl0_in (htb _ wn_MT)
  obtain ⟨c1, i1, hK1⟩ := u_known (C := R_Tx) (T := F_Tx) (N := 2) (n := 2) htb cl1_in (htb _ wn_Tx)
  obtain ⟨c2, i2, hK2⟩ := u_known (C := R_Mc) (T := F_Mc) (N := 3) (n := 3) htb cl2_in (htb _ wn_Mc)
  obtain ⟨c3, i3, hK3⟩ := u_known (C := R_Ps) (T := F_Ps) (N := 2) (n := 2) htb cl3_in (htb _ wn_Ps)
  obtain ⟨c4, i4, hK4⟩ := u_known (C := R_Pa) (T := F_Pa) (N := 1) (n := 1) htb cl4_in (htb _ wn_Pa)
  obtain ⟨c5, i5, hK5⟩ := u_known (C := R_Fl) (T := F_Fl) (N := 2) (n := 2) htb cl5_in (htb _ wn_Fl)
  obtain ⟨c6, i6, hK6⟩ := u_known (C := R_Mo) (T := F_Mo) (N := 24) (n := 24) htb cl6_in (htb _ wn_Mo)
  obtain ⟨t0, z0, y0⟩ := lw_tab (nm := "LETTERS") (d := "[C") (ty := .char) (f := xL) (A := xA s.heap.size) (hts (.laysStatic R_MT "LETTERS" "[C") (by decide +kernel)) (htb _ wc_MT) (hfl _ (by decide +kernel)) (hfl _ (by decide +kernel)) (hfl _ (by decide +kernel)) (hfl _ (by decide +kernel)) (hfl _ (by decide +kernel)) (hfl _ (by decide +kernel)) (hfl _ (by decide +kernel)) hA
  obtain ⟨t1, z1, y1⟩ := lw_tab (nm := "LEAST_SIZES") (d := "[I") (ty := .int) (f := xLo) (A := xA s.heap.size) (hts (.laysStatic R_MT "LEAST_SIZES" "[I") (by decide +kernel)) (htb _ wc_MT) (hfl _ (by decide +kernel)) (hfl _ (by decide +kernel)) (hfl _ (by decide +kernel)) (hfl _ (by decide +kernel)) (hfl _ (by decide +kernel)) (hfl _ (by decide +kernel)) (hfl _ (by decide +kernel)) hA
  obtain ⟨t2, z2, y2⟩ := lw_tab (nm := "MOST_SIZES") (d := "[I") (ty := .int) (f := xHi) (A := xA s.heap.size) (hts (.laysStatic R_MT "MOST_SIZES" "[I") (by decide +kernel)) (htb _ wc_MT) (hfl _ (by decide +kernel)) (hfl _ (by decide +kernel)) (hfl _ (by decide +kernel)) (hfl _ (by decide +kernel)) (hfl _ (by decide +kernel)) (hfl _ (by decide +kernel)) (hfl _ (by decide +kernel)) hA
  refine ⟨((fun k => [c0, c1, c2, c3, c4, c5, c6].getD k 0, fun k => [i0, i1, i2, i3, i4, i5, i6].getD k (fun _ => 0)), (aI, aC, aG, aZ, aL), (t0, t1, t2)), hx, hb, hml, hown, htb, ⟨?_, ?_⟩, ⟨⟨z0, y0⟩, ⟨z1, y1⟩, ⟨z2, y2⟩, fun w hw => va_Nw.of (xNest_on w hw) (hts w (xNest_tb w hw)), kG, g3, hcomp ▸ g4⟩, Nat.le_refl _, hlocks⟩
  · intro k q hq
    match k, hq with
    | 0, hq => cases hq; exact hK0
    | 1, hq => cases hq; exact hK1
    | 2, hq => cases hq; exact hK2
    | 3, hq => cases hq; exact hK3
    | 4, hq => cases hq; exact hK4
    | 5, hq => cases hq; exact hK5
    | 6, hq => cases hq; exact hK6
    | k + 7, hq => simp [vwCl] at hq
  · intro k q hq
    match k, hq with
    | 0, hq => cases hq; exact ⟨rI, nI'⟩
    | 1, hq => cases hq; exact ⟨rC', nC⟩
    | 2, hq => cases hq; exact ⟨fun n z => ⟨fun k h => (by cases h), kG, g3, comp, g4⟩, g5⟩
    | 3, hq => cases hq; exact ⟨rZ, nZ⟩
    | 4, hq => cases hq; exact ⟨rL, nL⟩
    | k + 5, hq => simp [xT] at hq
