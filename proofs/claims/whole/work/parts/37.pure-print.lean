/-! printing: the same on both sides, while the print has room -/
def txS (s s' : tx_S) (n : Nat) : Prop := s.2 = n ∧ s'.2 = n ∧ ∀ j, j < n → s.1 j = s'.1 j
theorem txS_put {s s' : tx_S} {n : Nat} (h : txS s s' n) (hn : n < 300) (x : Int32) : txS (tx_psh s x) (pn_put s' x) (n + 1) := by
  obtain ⟨h1, h2, h3⟩ := h
  refine ⟨?_, by show s'.2 + 1 = n + 1; omega, fun j hj => ?_⟩
  · show tx_len s.2 = n + 1
    rw [tx_len, if_pos (by omega)]; omega
  · show tx_add s.1 s.2 x j = upd s'.1 s'.2 x j
    rw [tx_add, if_pos (by omega), h1, h2]
    by_cases e : j = n
    · rw [e, pk_us, pk_us]
    · rw [pk_un e, pk_un e]; exact h3 j (by omega)
theorem tx_un_pos {k : Nat} (h : k ≤ 3) : 0 < tx_un k ∧ tx_un k ≤ 1000 := by
  obtain rfl | rfl | rfl | rfl : k = 0 ∨ k = 1 ∨ k = 2 ∨ k = 3 := by omega
  all_goals decide
theorem tx_dc_is {x k : Nat} (hx : x ≤ 9999) (hk : k ≤ 3) : tx_dc (nI x) k = nI (48 + x / tx_un k % 10) := by
  obtain ⟨h1, h2⟩ := tx_un_pos hk
  have hd : x / tx_un k ≤ 9999 := Nat.le_trans (Nat.div_le_self _ _) hx
  rw [tx_dc, pk_div (by omega) h1 (by omega), show nI (x / tx_un k) - nI (x / tx_un k) / 10 * 10 = nI (x / tx_un k % 10) from pk_rem (d := 10) (by omega) (by decide) (by decide), show (48 : Int32) + nI (x / tx_un k % 10) = nI (48 + x / tx_un k % 10) from nI_add 48 _]
  exact tx_char (by omega)
theorem tx_dg_y {x k : Nat} (hx : x ≤ 9999) (hk : k ≤ 3) (s : tx_S) (h : tx_un k ≤ x ∨ k = 3) : tx_dg (nI x) k s = tx_psh s (nI (48 + x / tx_un k % 10)) := by
  obtain ⟨h1, h2⟩ := tx_un_pos hk
  rw [tx_dg, tx_dc_is hx hk]
  rcases h with h | h
  · rw [if_pos (nI_le h (by omega))]
  · split
    · rfl
    · first | rfl | rw [if_pos h]
theorem tx_dg_n {x k : Nat} (hx : x ≤ 9999) (hk : k < 3) (s : tx_S) (h : x < tx_un k) : tx_dg (nI x) k s = s := by
  obtain ⟨h1, h2⟩ := tx_un_pos (k := k) (by omega)
  rw [tx_dg, if_neg (nI_ge h (by omega)), if_neg (by omega)]
theorem tx_u0 : tx_un 0 = 1000 := by decide
theorem tx_u1 : tx_un 1 = 100 := by decide
theorem tx_u2 : tx_un 2 = 10 := by decide
theorem tx_u3 : tx_un 3 = 1 := by decide
theorem txS_num {s s' : tx_S} {n x : Nat} (h : txS s s' n) (hx : x ≤ 9999) (hn : n + (mo_e x + 1) ≤ 300) : txS (it (tx_dg (nI x)) 4 s) (mo_pn (nI x) s') (n + (mo_e x + 1)) := by
  rw [mo_pn, nI_clamp (by omega)]
  show txS (tx_dg (nI x) 3 (tx_dg (nI x) 2 (tx_dg (nI x) 1 (tx_dg (nI x) 0 s)))) _ _
  have u0 := tx_u0
  have u1 := tx_u1
  have u2 := tx_u2
  have u3 := tx_u3
  have d3 : ∀ {s s' : tx_S} {n : Nat}, txS s s' n → n < 300 → txS (tx_dg (nI x) 3 s) (mo_dgs x 1 s') (n + 1) := fun {s s' n} h hn => by
    rw [tx_dg_y hx (by omega) s (Or.inr rfl), u3]
    exact txS_put h hn _
  have d2 : ∀ {s s' : tx_S} {n : Nat}, 10 ≤ x → txS s s' n → n + 1 < 300 → txS (tx_dg (nI x) 3 (tx_dg (nI x) 2 s)) (mo_dgs x 2 s') (n + 2) := fun {s s' n} hl h hn => by
    rw [tx_dg_y (k := 2) hx (by omega) s (Or.inl (by omega)), u2]
    exact d3 (txS_put h (by omega) _) hn
  have d1 : ∀ {s s' : tx_S} {n : Nat}, 100 ≤ x → txS s s' n → n + 2 < 300 → txS (tx_dg (nI x) 3 (tx_dg (nI x) 2 (tx_dg (nI x) 1 s))) (mo_dgs x 3 s') (n + 3) := fun {s s' n} hl h hn => by
    rw [tx_dg_y (k := 1) hx (by omega) s (Or.inl (by omega)), u1]
    exact d2 (by omega) (txS_put h (by omega) _) hn
  have d0 : ∀ {s s' : tx_S} {n : Nat}, 1000 ≤ x → txS s s' n → n + 3 < 300 → txS (tx_dg (nI x) 3 (tx_dg (nI x) 2 (tx_dg (nI x) 1 (tx_dg (nI x) 0 s)))) (mo_dgs x 4 s') (n + 4) := fun {s s' n} hl h hn => by
    rw [tx_dg_y (k := 0) hx (by omega) s (Or.inl (by omega)), u0]
    exact d1 (by omega) (txS_put h (by omega) _) hn
  rcases mo_e_c x with ⟨e, c1⟩ | ⟨e, c1, c2⟩ | ⟨e, c1, c2⟩ | ⟨e, c1⟩
  · rw [e] at hn ⊢
    rw [tx_dg_n (k := 0) hx (by omega) _ (by omega), tx_dg_n (k := 1) hx (by omega) _ (by omega), tx_dg_n (k := 2) hx (by omega) _ (by omega)]
    exact d3 h (by omega)
  · rw [e] at hn ⊢
    rw [tx_dg_n (k := 0) hx (by omega) _ (by omega), tx_dg_n (k := 1) hx (by omega) _ (by omega)]
    exact d2 c1 h (by omega)
  · rw [e] at hn ⊢
    rw [tx_dg_n (k := 0) hx (by omega) _ (by omega)]
    exact d1 c1 h (by omega)
  · rw [e] at hn ⊢
    exact d0 c1 h (by omega)
section PQ
variable {M : Nat → Nat → Int32} {f6 f7 f8 f9 f10 : Nat → Int32} {m : Nat}
theorem txS_val (hm : m ≤ 24) {i : Nat} (hi : i < m) {col x : Nat} (hcol : col < 6) (hx : x ≤ 9999) (hv : M col i = nI x) {s s' : tx_S} {n : Nat} (ch : Int32) (h : txS s s' n) (hn : n + (mo_e x + 2) ≤ 300) : txS (pr_val M m ch (nI i) (nI col) s) (mo_pn (nI x) (pn_put s' ch)) (n + (mo_e x + 2)) := by
  rw [pr_val, mv_c hm hi hcol, hv, if_neg (nI_ne_m1 (by omega))]
  have := txS_num (txS_put h (by omega) ch) hx (by omega)
  rw [show n + (mo_e x + 2) = n + 1 + (mo_e x + 1) by omega]
  exact this
theorem pr_none (hm : m ≤ 24) {i : Nat} (hi : i < m) {col : Nat} (hcol : col < 6) (hv : M col i = -1) (ch : Int32) (s : tx_S) : pr_val M m ch (nI i) (nI col) s = s := by
  rw [pr_val, mv_c hm hi hcol, hv, if_pos rfl]
theorem pr_eq (hm : m ≤ 24) (hok : mk_ok f6 f7 f8 f9 f10 m) (he : mk_eq M f6 f7 f8 f9 f10 m) {i : Nat} (hi : i < m) {s s' : tx_S} {n : Nat} (h : txS s s' n) (hn : n + (ln6 (f6, f7, f8, f9, f10) i + 1) ≤ 300) : txS (pr_part M m (nI i) s) (mo_pp f6 f7 f8 f9 f10 i s') (n + (ln6 (f6, f7, f8, f9, f10) i + 1)) := by
  obtain ⟨kd, nm, nu, h1, h6, h7, h7', h8, h8', h9, h9', hw0, hw0', hw1, hw1'⟩ := hok i hi
  obtain ⟨e0, e1, e2, e3, e4, e5⟩ := he i hi
  have v0 : mc_val M m (nI i) 0 = nI kd := (mv_0 hm he hi).trans h6
  have v1 : mc_val M m (nI i) 1 = nI nm := (mv_1 hm he hi).trans h7'
  have hL : mo_letter (f6 i) = xL kd := by
    rw [h6]
    obtain rfl | rfl | rfl | rfl | rfl : kd = 0 ∨ kd = 1 ∨ kd = 2 ∨ kd = 3 ∨ kd = 4 := by omega
    all_goals decide
  have l3 : ln3 (f6, f7, f8, f9, f10) i = mo_e nm + mo_e nu + 4 := by
    rw [ln3]; dsimp only; rw [h7', h8', nI_clamp (by omega), nI_clamp (by omega)]
  have l4 : ln4 (f6, f7, f8, f9, f10) i = ln3 (f6, f7, f8, f9, f10) i + (if f6 i = 1 then mo_e (f9 i).toNatClampNeg + 2 else 0) := rfl
  have l5 : ln5 (f6, f7, f8, f9, f10) i = ln4 (f6, f7, f8, f9, f10) i + (if 4 ≤ f6 i then 0 else mo_e (f10 (2 * i)).toNatClampNeg + 2) := rfl
  have l6 : ln6 (f6, f7, f8, f9, f10) i = ln5 (f6, f7, f8, f9, f10) i + (if f6 i = 3 then mo_e (f10 (2 * i + 1)).toNatClampNeg + 2 else 0) := rfl
  rw [pr_part, v0, if_neg (nI_pos (by omega)), if_pos (show nI kd < 5 from nI_lt (b := 5) (by omega) (by decide)), pr_body, v0, v1, nI_clamp (by omega), mo_pp, hL, h7', h8']
  have t1 := txS_put h (by omega) (xL kd)
  have t2 := txS_num t1 (x := nm) (by omega) (by omega)
  have t3 := txS_val hm hi (col := 2) (by omega) (x := nu) (by omega) (e2.trans h8') 61 t2 (by omega)
  generalize it (tx_dg (nI nm)) 4 (tx_psh s (xL kd)) = s2 at t3 ⊢
  generalize mo_pn (nI nu) (pn_put (mo_pn (nI nm) (pn_put s' (xL kd))) 61) = r3 at t3 ⊢
  have t3 : txS (pr_val M m 61 (nI i) 2 s2) r3 (n + ln3 (f6, f7, f8, f9, f10) i) := by
    rw [l3, show n + (mo_e nm + mo_e nu + 4) = n + 1 + (mo_e nm + 1) + (mo_e nu + 2) by omega]; exact t3
  generalize pr_val M m 61 (nI i) 2 s2 = s3 at t3 ⊢
  have t4 : txS (pr_val M m 44 (nI i) 3 s3) (mo_c1 f6 f9 i r3) (n + ln4 (f6, f7, f8, f9, f10) i) := by
    rw [mo_c1]
    by_cases q : kd = 1
    · obtain ⟨sp, s1, s2, s3'⟩ := h9 q
      have q' : f6 i = 1 := by rw [h6, q]; rfl
      rw [if_pos q', s3', nI_clamp (by omega)] at l4
      rw [if_pos q', s3', l4, ← Nat.add_assoc]
      exact txS_val hm hi (col := 3) (by omega) s2 (e3.trans s3') 44 t3 (by omega)
    · have q' : ¬ f6 i = 1 := fun z => q ((nI_is (b := 1) (by omega) (by omega)).mp (h6.symm.trans z))
      rw [if_neg q'] at l4
      rw [if_neg q', l4, show pr_val M m 44 (nI i) 3 s3 = s3 from pr_none hm hi (col := 3) (by omega) (e3.trans (h9' q)) 44 s3]
      exact t3
  generalize pr_val M m 44 (nI i) 3 s3 = s4 at t4 ⊢
  generalize mo_c1 f6 f9 i r3 = r4 at t4 ⊢
  have t5 : txS (pr_val M m 62 (nI i) 4 s4) (mo_c2 f6 f10 i r4) (n + ln5 (f6, f7, f8, f9, f10) i) := by
    rw [mo_c2]
    by_cases q : kd = 4
    · have q' : 4 ≤ f6 i := by rw [h6, q]; decide
      rw [if_pos q'] at l5
      rw [if_pos q', l5, show pr_val M m 62 (nI i) 4 s4 = s4 from pr_none hm hi (col := 4) (by omega) (e4.trans (hw0' q)) 62 s4]
      exact t4
    · obtain ⟨w, s1, s2'⟩ := hw0 (by omega)
      have q' : ¬ 4 ≤ f6 i := by rw [h6]; exact nI_ge (b := 4) (by omega) (by decide)
      rw [if_neg q', s2', nI_clamp (by omega)] at l5
      rw [if_neg q', s2', l5, ← Nat.add_assoc]
      exact txS_val hm hi (col := 4) (by omega) (by omega) (e4.trans s2') 62 t4 (by omega)
  generalize pr_val M m 62 (nI i) 4 s4 = s5 at t5 ⊢
  generalize mo_c2 f6 f10 i r4 = r5' at t5 ⊢
  have t6 : txS (pr_val M m 44 (nI i) 5 s5) (mo_c3 f6 f10 i r5') (n + ln6 (f6, f7, f8, f9, f10) i) := by
    rw [mo_c3]
    by_cases q : kd = 3
    · obtain ⟨w, s1, s2'⟩ := hw1 q
      have q' : f6 i = 3 := by rw [h6, q]; rfl
      rw [if_pos q', s2', nI_clamp (by omega)] at l6
      rw [if_pos q', s2', l6, ← Nat.add_assoc]
      exact txS_val hm hi (col := 5) (by omega) (by omega) (e5.trans s2') 44 t5 (by omega)
    · have q' : ¬ f6 i = 3 := fun z => q ((nI_is (b := 3) (by omega) (by omega)).mp (h6.symm.trans z))
      rw [if_neg q'] at l6
      rw [if_neg q', l6, show pr_val M m 44 (nI i) 5 s5 = s5 from pr_none hm hi (col := 5) (by omega) (e5.trans (hw1' q)) 44 s5]
      exact t5
  have t7 := txS_put t6 (by omega) 59
  exact t7
theorem sl_mono {F : md_F} (i : Nat) : ∀ d, sl F i ≤ sl F (i + d)
  | 0 => Nat.le_refl _
  | d + 1 => Nat.le_trans (sl_mono i d) (Nat.le_add_right _ _)
theorem print_eq (hm : m ≤ 24) (hok : mk_ok f6 f7 f8 f9 f10 m) (he : mk_eq M f6 f7 f8 f9 f10 m) (hl : sl (f6, f7, f8, f9, f10) m ≤ 300) (g g' : Nat → Int32) : ∀ k, k ≤ m → txS (it (fun i => pr_part M m (nI i)) k (g, 0)) (mo_pall f6 f7 f8 f9 f10 k (g', 0)) (sl (f6, f7, f8, f9, f10) k)
  | 0, _ => ⟨rfl, rfl, fun j hj => absurd hj (Nat.not_lt_zero _)⟩
  | k + 1, hk => by
    have h1 := print_eq hm hok he hl g g' k (by omega)
    have h2 := sl_mono (F := (f6, f7, f8, f9, f10)) (k + 1) (m - (k + 1))
    rw [show k + 1 + (m - (k + 1)) = m by omega] at h2
    have h3 : sl (f6, f7, f8, f9, f10) (k + 1) = sl (f6, f7, f8, f9, f10) k + (ln6 (f6, f7, f8, f9, f10) k + 1) := rfl
    exact pr_eq hm hok he (by omega : k < m) h1 (by omega)
end PQ
