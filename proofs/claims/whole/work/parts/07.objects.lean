section XTB
variable {p : Program} {l : Launch} {e : Env} {R : Room} {s : State} {m : MethodId} {args : Array Value} {below : List Frame} {meth : Method} {c : Code} {H : Heap} {locs : List Loc} {cells slots : Nat} {Q : State → Prop}
variable {cc : ByteArray} {pc nL : Nat} {ls : Array Slot} {rest : List Value} {g : xG} {b0 : Nat} {own : String}
theorem x_tab_L (E : xE g b0 cc nL own p s m args meth c) (hS : va_S (xA b0) s.heap H locs) {i : Int32} {j : Nat} (hi : i = nI j) (hj : j < 5) (hdg : decode cc pc = .ok (.caload, 1)) (kk : W p l e R s m args below meth c H locs cells slots Q (F0 m (pc + 1) ls (.int (xL j) :: rest))) : W p l e R s m args below meth c H locs cells slots Q (F0 m pc ls (.int i :: .ref (tL g) :: rest)) := by
  subst hi
  exact va_tc E.1 E.2.1 E.2.2.2.2.2.2.1.1.2 hS (x_in5 hj) (by rw [nI_clamp (by omega)]) hdg kk
theorem x_tab_A (E : xE g b0 cc nL own p s m args meth c) (hS : va_S (xA b0) s.heap H locs) {i : Int32} {j : Nat} (hi : i = nI j) (hj : j < 5) (hdg : decode cc pc = .ok (.iaload, 1)) (kk : W p l e R s m args below meth c H locs cells slots Q (F0 m (pc + 1) ls (.int (xLo j) :: rest))) : W p l e R s m args below meth c H locs cells slots Q (F0 m pc ls (.int i :: .ref (tA g) :: rest)) := by
  subst hi
  exact va_ti E.1 E.2.1 E.2.2.2.2.2.2.1.2.1.2 hS (x_in5 hj) (by rw [nI_clamp (by omega)]) hdg kk
theorem x_tab_B (E : xE g b0 cc nL own p s m args meth c) (hS : va_S (xA b0) s.heap H locs) {i : Int32} {j : Nat} (hi : i = nI j) (hj : j < 5) (hdg : decode cc pc = .ok (.iaload, 1)) (kk : W p l e R s m args below meth c H locs cells slots Q (F0 m (pc + 1) ls (.int (xHi j) :: rest))) : W p l e R s m args below meth c H locs cells slots Q (F0 m pc ls (.int i :: .ref (tB g) :: rest)) := by
  subst hi
  exact va_ti E.1 E.2.1 E.2.2.2.2.2.2.1.2.2.1.2 hS (x_in5 hj) (by rw [nI_clamp (by omega)]) hdg kk
theorem x_len_L (E : xE g b0 cc nL own p s m args meth c) (hS : va_S (xA b0) s.heap H locs) (hdg : decode cc pc = .ok (.arraylength, 1)) (kk : W p l e R s m args below meth c H locs cells slots Q (F0 m (pc + 1) ls (.int 5 :: rest))) : W p l e R s m args below meth c H locs cells slots Q (F0 m pc ls (.ref (tL g) :: rest)) := va_tlen E.1 E.2.1 E.2.2.2.2.2.2.1.1.2 hS rfl hdg kk
theorem x_len_A (E : xE g b0 cc nL own p s m args meth c) (hS : va_S (xA b0) s.heap H locs) (hdg : decode cc pc = .ok (.arraylength, 1)) (kk : W p l e R s m args below meth c H locs cells slots Q (F0 m (pc + 1) ls (.int 5 :: rest))) : W p l e R s m args below meth c H locs cells slots Q (F0 m pc ls (.ref (tA g) :: rest)) := va_tlen E.1 E.2.1 E.2.2.2.2.2.2.1.2.1.2 hS rfl hdg kk
theorem x_len_B (E : xE g b0 cc nL own p s m args meth c) (hS : va_S (xA b0) s.heap H locs) (hdg : decode cc pc = .ok (.arraylength, 1)) (kk : W p l e R s m args below meth c H locs cells slots Q (F0 m (pc + 1) ls (.int 5 :: rest))) : W p l e R s m args below meth c H locs cells slots Q (F0 m pc ls (.ref (tB g) :: rest)) := va_tlen E.1 E.2.1 E.2.2.2.2.2.2.1.2.2.1.2 hS rfl hdg kk
theorem x_gets_L_MT (E : xE g b0 cc nL R_MT p s m args meth c) (hS : va_S (xA b0) s.heap H locs) (hdg : decode cc pc = .ok (.getstatic 105, 3)) (kk : W p l e R s m args below meth c H locs cells slots Q (F0 m (pc + 3) ls (.ref (tL g) :: rest))) : W p l e R s m args below meth c H locs cells slots Q (F0 m pc ls rest) :=
  va_gets E.1 E.2.1 E.2.2.2.2.2.2.1.1.1 hS E.2.2.2.1 (E.2.2.2.2.1 _ wf_MT_105) (fun _ h => h) hdg kk
theorem x_gets_L_Ps (E : xE g b0 cc nL R_Ps p s m args meth c) (hS : va_S (xA b0) s.heap H locs) (hdg : decode cc pc = .ok (.getstatic 78, 3)) (kk : W p l e R s m args below meth c H locs cells slots Q (F0 m (pc + 3) ls (.ref (tL g) :: rest))) : W p l e R s m args below meth c H locs cells slots Q (F0 m pc ls rest) :=
  va_getsN E.1 E.2.1 E.2.2.2.2.2.2.1.1.1 hS E.2.2.2.1 (va_Nw.use (w := .fieldLinkNest R_Ps 78 "MachineText" "LETTERS" "[C" "MachineText") rfl (E.2.2.2.2.2.2.1.2.2.2.1 _ (by decide))) (fun _ h => h) hdg kk
theorem x_gets_A_Ps (E : xE g b0 cc nL R_Ps p s m args meth c) (hS : va_S (xA b0) s.heap H locs) (hdg : decode cc pc = .ok (.getstatic 41, 3)) (kk : W p l e R s m args below meth c H locs cells slots Q (F0 m (pc + 3) ls (.ref (tA g) :: rest))) : W p l e R s m args below meth c H locs cells slots Q (F0 m pc ls rest) :=
  va_getsN E.1 E.2.1 E.2.2.2.2.2.2.1.2.1.1 hS E.2.2.2.1 (va_Nw.use (w := .fieldLinkNest R_Ps 41 "MachineText" "LEAST_SIZES" "[I" "MachineText") rfl (E.2.2.2.2.2.2.1.2.2.2.1 _ (by decide))) (fun _ h => h) hdg kk
theorem x_gets_B_Ps (E : xE g b0 cc nL R_Ps p s m args meth c) (hS : va_S (xA b0) s.heap H locs) (hdg : decode cc pc = .ok (.getstatic 45, 3)) (kk : W p l e R s m args below meth c H locs cells slots Q (F0 m (pc + 3) ls (.ref (tB g) :: rest))) : W p l e R s m args below meth c H locs cells slots Q (F0 m pc ls rest) :=
  va_getsN E.1 E.2.1 E.2.2.2.2.2.2.1.2.2.1.1 hS E.2.2.2.1 (va_Nw.use (w := .fieldLinkNest R_Ps 45 "MachineText" "MOST_SIZES" "[I" "MachineText") rfl (E.2.2.2.2.2.2.1.2.2.2.1 _ (by decide))) (fun _ h => h) hdg kk
end XTB
/-- a grid's rows in a world, from the place qb on -/
def xF (g : xG) (ws : va_W) (qb n k : Nat) (r : Nat → Nat) (M : Nat → Nat → Int32) : Prop := ∀ j, j < n → ws[qb + j]? = some (r j, .inl (cI g, k, .inl (M j)))
def xg_up (M : Nat → Nat → Int32) (j i : Nat) (x : Int32) : Nat → Nat → Int32 := fun a => if a = j then upd (M a) i x else M a
theorem xg_put {g : xG} {ws w1 : va_W} {qb n k j i : Nat} {r : Nat → Nat} {M : Nat → Nat → Int32} {x : Int32} (h : ∀ j, j < n → ws[qb + j]? = some (r j, .inl (cI g, k, .inl (M j)))) (hU : xU ws (qb + j) (r j, .inl (cI g, k, .inl (upd (M j) i x))) w1) : ∀ j', j' < n → w1[qb + j']? = some (r j', .inl (cI g, k, .inl (xg_up M j i x j'))) := by
  intro j' hj'
  by_cases e : j' = j
  · subst e
    rw [hU.1]
    simp [xg_up]
  · rw [hU.2 _ (by omega), h j' hj']
    simp [xg_up, e]
theorem xg_up_get (M : Nat → Nat → Int32) (j i : Nat) (x : Int32) (a b : Nat) : xg_up M j i x a b = if a = j ∧ b = i then x else M a b := by
  unfold xg_up
  by_cases e : a = j
  · by_cases e2 : b = i
    · simp [e, e2, upd]
    · simp [e, e2, upd]
  · simp [e]
theorem x_ix {x : Int32} {n : Nat} (hn : n < 2 ^ 31) (h0 : ¬ x < 0) (h1 : ¬ nI n ≤ x) : ∃ j : Nat, j < n ∧ x = nI j := by
  rcases pk_ix x hn with h | h | h
  · exact absurd h h0
  · exact absurd h h1
  · exact h
theorem x_ixl {x : Int32} {n : Nat} (hn : n < 2 ^ 31) (h0 : ¬ x < 0) (h1 : x < nI n) : ∃ j : Nat, j < n ∧ x = nI j :=
  x_ix hn h0 (fun h => by
    have a := Int32.lt_iff_toInt_lt.mp h1
    have b := Int32.le_iff_toInt_le.mp h
    omega)
/-! THE OBJECTS, by their places -/
def xText (g : xG) (ws : va_W) (q h a : Nat) (f : Nat → Int32) (n : Nat) : Prop := ws[q]? = some (h, .inr (1, [.ref a, .int (nI n)])) ∧ ws[q + 1]? = some (a, .inl (cC g, 300, .inl f))
theorem xText.keep {g : xG} {ws w1 : va_W} {q h a n lo hi : Nat} {f : Nat → Int32} (H : xText g ws q h a f n) (hQ : xQ lo hi ws w1) (hd : q + 2 ≤ lo ∨ hi ≤ q) : xText g w1 q h a f n := ⟨(hQ _ (by omega)).trans H.1, (hQ _ (by omega)).trans H.2⟩
def xMach (g : xG) (ws : va_W) (q h o x : Nat) (r : Nat → Nat) (M : Nat → Nat → Int32) (ix : Nat → Int32) (n : Nat) : Prop := ws[q]? = some (h, .inr (2, [.ref o, .ref x, .int (nI n)])) ∧ ws[q + 1]? = some (o, .inl (cG g, 6, .inr (.inr (.inr (.inr (fun j => some (r j))))))) ∧ ws[q + 8]? = some (x, .inl (cI g, 30, .inl ix)) ∧ ∀ j, j < 6 → ws[q + 2 + j]? = some (r j, .inl (cI g, 24, .inl (M j)))
theorem xMach.keep {g : xG} {ws w1 : va_W} {q h o x n lo hi : Nat} {r : Nat → Nat} {M : Nat → Nat → Int32} {ix : Nat → Int32} (H : xMach g ws q h o x r M ix n) (hQ : xQ lo hi ws w1) (hd : q + 9 ≤ lo ∨ hi ≤ q) : xMach g w1 q h o x r M ix n := ⟨(hQ _ (by omega)).trans H.1, (hQ _ (by omega)).trans H.2.1, (hQ _ (by omega)).trans H.2.2.1, fun j hj => (hQ _ (by omega)).trans (H.2.2.2 j hj)⟩
def xPath (g : xG) (ws : va_W) (q h o : Nat) (r : Nat → Nat) (T : Nat → Nat → Int32) : Prop := ws[q]? = some (h, .inr (4, [.ref o])) ∧ ws[q + 1]? = some (o, .inl (cG g, 24, .inr (.inr (.inr (.inr (fun j => some (r j))))))) ∧ ∀ j, j < 24 → ws[q + 2 + j]? = some (r j, .inl (cI g, 24, .inl (T j)))
theorem xPath.keep {g : xG} {ws w1 : va_W} {q h o lo hi : Nat} {r : Nat → Nat} {T : Nat → Nat → Int32} (H : xPath g ws q h o r T) (hQ : xQ lo hi ws w1) (hd : q + 26 ≤ lo ∨ hi ≤ q) : xPath g w1 q h o r T := ⟨(hQ _ (by omega)).trans H.1, (hQ _ (by omega)).trans H.2.1, fun j hj => (hQ _ (by omega)).trans (H.2.2 j hj)⟩
def xFlt (g : xG) (ws : va_W) (q h o : Nat) (r : Nat → Nat) (M : Nat → Nat → Int32) (n : Nat) : Prop := ws[q]? = some (h, .inr (5, [.ref o, .int (nI n)])) ∧ ws[q + 1]? = some (o, .inl (cG g, 3, .inr (.inr (.inr (.inr (fun j => some (r j))))))) ∧ ∀ j, j < 3 → ws[q + 2 + j]? = some (r j, .inl (cI g, 168, .inl (M j)))
theorem xFlt.keep {g : xG} {ws w1 : va_W} {q h o n lo hi : Nat} {r : Nat → Nat} {M : Nat → Nat → Int32} (H : xFlt g ws q h o r M n) (hQ : xQ lo hi ws w1) (hd : q + 5 ≤ lo ∨ hi ≤ q) : xFlt g w1 q h o r M n := ⟨(hQ _ (by omega)).trans H.1, (hQ _ (by omega)).trans H.2.1, fun j hj => (hQ _ (by omega)).trans (H.2.2 j hj)⟩
/-- k rounds of a loop, from 0 on -/
def it {α : Type} (f : Nat → α → α) : Nat → α → α
  | 0, a => a
  | k + 1, a => f k (it f k a)
/-! a thing stays where its own places stay -/
section XKP
variable {g : xG} {ws w1 : va_W} {q h a o d n : Nat} {f : Nat → Int32} {r : Nat → Nat} {M : Nat → Nat → Int32} {ix : Nat → Int32}
theorem xText.kp (H : xText g ws q h a f n) (k : ∀ i, q ≤ i → i < q + 2 → w1[i]? = ws[i]?) : xText g w1 q h a f n := ⟨(k _ (by omega) (by omega)).trans H.1, (k _ (by omega) (by omega)).trans H.2⟩
theorem xMach.kp (H : xMach g ws q h o d r M ix n) (k : ∀ i, q ≤ i → i < q + 9 → w1[i]? = ws[i]?) : xMach g w1 q h o d r M ix n := ⟨(k _ (by omega) (by omega)).trans H.1, (k _ (by omega) (by omega)).trans H.2.1, (k _ (by omega) (by omega)).trans H.2.2.1, fun j hj => (k _ (by omega) (by omega)).trans (H.2.2.2 j hj)⟩
theorem xPath.kp (H : xPath g ws q h o r M) (k : ∀ i, q ≤ i → i < q + 26 → w1[i]? = ws[i]?) : xPath g w1 q h o r M := ⟨(k _ (by omega) (by omega)).trans H.1, (k _ (by omega) (by omega)).trans H.2.1, fun j hj => (k _ (by omega) (by omega)).trans (H.2.2 j hj)⟩
theorem xFlt.kp (H : xFlt g ws q h o r M n) (k : ∀ i, q ≤ i → i < q + 5 → w1[i]? = ws[i]?) : xFlt g w1 q h o r M n := ⟨(k _ (by omega) (by omega)).trans H.1, (k _ (by omega) (by omega)).trans H.2.1, fun j hj => (k _ (by omega) (by omega)).trans (H.2.2 j hj)⟩
end XKP
