/-! the reference's times: rounds over the ways -/
theorem lN_ltB {a b : Nat} (ha : a < 2 ^ 63) (hb : b < 2 ^ 63) : lN a < lN b ↔ a < b := by
  rw [Int64.lt_iff_toInt_lt, show (lN a).toInt = a from lg_ofNat_toInt ha, show (lN b).toInt = b from lg_ofNat_toInt hb]; omega
theorem lN_eqB {a b : Nat} (ha : a < 2 ^ 63) (hb : b < 2 ^ 63) : lN a = lN b ↔ a = b := by
  rw [← Int64.toInt_inj, show (lN a).toInt = a from lg_ofNat_toInt ha, show (lN b).toInt = b from lg_ofNat_toInt hb]; omega
theorem lg_ge {a b : Nat} (ha : a < 2 ^ 63) (hb : b < 2 ^ 63) : 0 ≤ lg_cmp (lN a) (lN b) ↔ b ≤ a := by
  unfold lg_cmp
  by_cases h : b < a
  · rw [if_pos (show lN a > lN b from (lN_ltB hb ha).mpr h)]
    exact ⟨fun _ => by omega, fun _ => by decide⟩
  · rw [if_neg (show ¬ lN a > lN b from fun q => h ((lN_ltB hb ha).mp q))]
    by_cases h2 : a = b
    · rw [if_pos (by rw [h2])]
      exact ⟨fun _ => by omega, fun _ => by decide⟩
    · rw [if_neg (fun q => h2 ((lN_eqB ha hb).mp q))]
      exact ⟨fun q => absurd q (by decide), fun q => by omega⟩
theorem lg_eq {a b : Nat} (ha : a < 2 ^ 63) (hb : b < 2 ^ 63) : lg_cmp (lN a) (lN b) = 0 ↔ a = b := by
  unfold lg_cmp
  by_cases h : b < a
  · rw [if_pos (show lN a > lN b from (lN_ltB hb ha).mpr h)]
    exact ⟨fun q => absurd q (by decide), fun q => by omega⟩
  · rw [if_neg (show ¬ lN a > lN b from fun q => h ((lN_ltB hb ha).mp q))]
    by_cases h2 : a = b
    · rw [if_pos (by rw [h2])]
      exact ⟨fun _ => h2, fun _ => rfl⟩
    · rw [if_neg (fun q => h2 ((lN_eqB ha hb).mp q))]
      exact ⟨fun q => absurd q (by decide), fun q => absurd q h2⟩
theorem lN_far : (9000000000000 : Int64) = lN 9000000000000 := rfl
theorem it_rel {α β : Type} {R : α → β → Prop} {f : Nat → α → α} {g : Nat → β → β} : ∀ (n : Nat) (a : α) (b : β), R a b → (∀ k a b, k < n → R a b → R (f k a) (g k b)) → R (it f n a) (it g n b)
  | 0, _, _, h, _ => h
  | n + 1, a, b, h, hs => hs n _ _ (by omega) (it_rel n a b h (fun k a b hk hr => hs k a b (by omega) hr))
def bz4 (f7 f10 : Nat → Int32) (t : Nat → Nat) (m k : Nat) (w : Nat) (b : Nat → Nat) : Nat → Nat := fun j => if mo_tg f7 f10 m k w = nI j ∧ b k < 9000000000000 ∧ b k + t k < b j then b k + t k else b j
def bz3 (f7 f10 : Nat → Int32) (t : Nat → Nat) (m : Nat) (k : Nat) (b : Nat → Nat) : Nat → Nat := it (bz4 f7 f10 t m k) 2 b
def bz2 (f7 f10 : Nat → Int32) (t : Nat → Nat) (m : Nat) (_ : Nat) (b : Nat → Nat) : Nat → Nat := it (bz3 f7 f10 t m) m b
def bzR (m : Nat) (B : Nat → Int64) (b : Nat → Nat) : Prop := ∀ j, j < m → B j = lN (b j) ∧ b j ≤ 9000000000000
section BZ
variable {f6 f7 f8 f9 f10 : Nat → Int32} {m : Nat}
theorem bz4_R (hm : m ≤ 24) (hok : mk_ok f6 f7 f8 f9 f10 m) {k w : Nat} (hk : k < m) {B : Nat → Int64} {b : Nat → Nat} (h : bzR m B b) : bzR m (mo_b4 f6 f7 f8 f9 f10 m k w B) (bz4 f7 f10 (gt f6 f8 f9 m) m k w b) := by
  intro j hj
  obtain ⟨hj1, hj2⟩ := h j hj
  obtain ⟨hk1, hk2⟩ := h k hk
  have gl := gt_le hok k
  unfold mo_b4 bz4
  rcases mo_tg_in f7 f10 m k w with q | ⟨d, hd, q⟩
  · rw [if_pos q, if_neg (fun z => nI_ne_m1 (p := j) (by omega) (z.1.symm.trans q))]
    exact ⟨hj1, hj2⟩
  · obtain ⟨hd1, hd2⟩ := h d hd
    rw [if_neg (by rw [q]; exact nI_ne_m1 (by omega)), q, nI_clamp (by omega), hk1, hd1, gt_mo hm hok hk, lN_add, lN_far]
    by_cases h1 : 9000000000000 ≤ b k
    · rw [if_pos ((lg_ge (a := b k) (b := 9000000000000) (by omega) (by omega)).mpr h1), if_neg (fun z => by omega)]
      exact ⟨hj1, hj2⟩
    · rw [if_neg (fun z => h1 ((lg_ge (a := b k) (b := 9000000000000) (by omega) (by omega)).mp z))]
      by_cases h2 : b d ≤ b k + gt f6 f8 f9 m k
      · rw [if_pos ((lg_ge (by omega) (by omega)).mpr h2), if_neg (fun z => by
          have : d = j := (nI_eq (by omega) (by omega)).mp z.1
          rw [← this] at z
          omega)]
        exact ⟨hj1, hj2⟩
      · rw [if_neg (fun z => h2 ((lg_ge (by omega) (by omega)).mp z))]
        by_cases h3 : j = d
        · rw [h3, pk_uLs, if_pos ⟨rfl, by omega, by omega⟩]
          exact ⟨rfl, by omega⟩
        · rw [pk_uLn h3, if_neg (fun z => h3 ((nI_eq (by omega) (by omega)).mp z.1).symm)]
          exact ⟨hj1, hj2⟩
theorem bz_R (hm : m ≤ 24) (hok : mk_ok f6 f7 f8 f9 f10 m) {n : Nat} {B : Nat → Int64} {b : Nat → Nat} (h : bzR m B b) : bzR m (it (mo_b2 f6 f7 f8 f9 f10 m) n B) (it (bz2 f7 f10 (gt f6 f8 f9 m) m) n b) :=
  it_rel (R := bzR m) n B b h (fun _ B b _ h => it_rel (R := bzR m) m B b h (fun k B b hk h => it_rel (R := bzR m) 2 B b h (fun w B b hw h => bz4_R hm hok hk h)))
theorem bz_0 (hm : m ≤ 24) {a : Nat} (ha : a < m) {B : Nat → Int64} : ∀ n, n ≤ m → bzR n (it (mo_b1 (nI a)) n B) (fun j => if j = a then 0 else 9000000000000)
  | 0, _ => fun j hj => absurd hj (Nat.not_lt_zero _)
  | n + 1, hn => fun j hj => by
    show vp_updL (it (mo_b1 (nI a)) n B) n (if nI n = nI a then 0 else 9000000000000) j = _ ∧ _
    by_cases e : j = n
    · rw [e, pk_uLs]
      by_cases h : n = a
      · rw [if_pos (by rw [h])]
        show (0 : Int64) = lN (if n = a then 0 else 9000000000000) ∧ (if n = a then 0 else 9000000000000) ≤ 9000000000000
        rw [if_pos h]
        exact ⟨rfl, by omega⟩
      · rw [if_neg (fun q => h ((nI_eq (by omega) (by omega)).mp q))]
        show (9000000000000 : Int64) = lN (if n = a then 0 else 9000000000000) ∧ (if n = a then 0 else 9000000000000) ≤ 9000000000000
        rw [if_neg h]
        exact ⟨rfl, by omega⟩
    · rw [pk_uLn e]
      exact bz_0 hm ha n (by omega) j (by omega)
end BZ
section BY
variable {f7 f10 : Nat → Int32} {t : Nat → Nat} {m a : Nat}
theorem bz4_le {k w : Nat} {b : Nat → Nat} {j : Nat} : bz4 f7 f10 t m k w b j ≤ b j := by
  unfold bz4
  split
  · omega
  · exact Nat.le_refl _
theorem it_dn {f : Nat → (Nat → Nat) → Nat → Nat} (h : ∀ k b j, f k b j ≤ b j) (b : Nat → Nat) (j : Nat) (i : Nat) : ∀ d, it f (i + d) b j ≤ it f i b j
  | 0 => Nat.le_refl _
  | d + 1 => Nat.le_trans (h _ _ _) (it_dn h b j i d)
theorem it_dn0 {f : Nat → (Nat → Nat) → Nat → Nat} (h : ∀ k b j, f k b j ≤ b j) (b : Nat → Nat) (j n : Nat) : it f n b j ≤ b j := by
  have := it_dn h b j 0 n
  rwa [Nat.zero_add] at this
theorem bz3_le {k : Nat} {b : Nat → Nat} {j : Nat} : bz3 f7 f10 t m k b j ≤ b j := it_dn0 (fun _ _ _ => bz4_le) b j 2
theorem bz2_le {k : Nat} {b : Nat → Nat} {j : Nat} : bz2 f7 f10 t m k b j ≤ b j := it_dn0 (fun _ _ _ => bz3_le) b j m
/-- what is told is a walk's time -/
def bzA (f7 f10 : Nat → Int32) (t : Nat → Nat) (m a : Nat) (b : Nat → Nat) : Prop := b a = 0 ∧ ∀ j, j < m → b j = 9000000000000 ∨ (j = a ∧ b j = 0) ∨ ∃ l, gw (ge f7 f10 m) a l j ∧ b j = gs t a l
theorem bz4_A {k w : Nat} (hk : k < m) (hw : w < 2) {b : Nat → Nat} (h : bzA f7 f10 t m a b) : bzA f7 f10 t m a (bz4 f7 f10 t m k w b) := by
  refine ⟨Nat.le_zero.mp (h.1 ▸ bz4_le), fun j hj => ?_⟩
  unfold bz4
  by_cases q : mo_tg f7 f10 m k w = nI j ∧ b k < 9000000000000 ∧ b k + t k < b j
  · rw [if_pos q]
    have hge : ge f7 f10 m k j := ⟨hj, by
      obtain rfl | rfl : w = 0 ∨ w = 1 := by omega
      · exact Or.inl q.1
      · exact Or.inr q.1⟩
    rcases h.2 k hk with z | ⟨z1, z2⟩ | ⟨l, z1, z2⟩
    · omega
    · exact Or.inr (Or.inr ⟨[], z1 ▸ hge, by rw [z2, z1]; show 0 + t a = t a; omega⟩)
    · exact Or.inr (Or.inr ⟨l ++ k :: [], (gw_app l a).mpr ⟨z1, hge⟩, by rw [gs_app, z2]; rfl⟩)
  · rw [if_neg q]
    exact h.2 j hj
theorem it_allB {α : Type} {P : α → Prop} {f : Nat → α → α} : ∀ (n : Nat) (a : α), (∀ k a, k < n → P a → P (f k a)) → P a → P (it f n a)
  | 0, _, _, h => h
  | n + 1, a, hs, h => hs n _ (by omega) (it_allB n a (fun k a hk hp => hs k a (by omega) hp) h)
theorem bz2_A {n : Nat} {b : Nat → Nat} (h : bzA f7 f10 t m a b) : bzA f7 f10 t m a (it (bz2 f7 f10 t m) n b) :=
  it_allB n b (fun _ b _ h => it_allB m b (fun k b hk h => it_allB 2 b (fun w b hw h => bz4_A hk hw h) h) h) h
theorem bz_go {r u j X : Nat} (hu : u < m) (he : ge f7 f10 m u j) (hX : X < 9000000000000) {b : Nat → Nat} (hb : b u ≤ X) : bz2 f7 f10 t m r b j ≤ X + t u := by
  have s1 : ∀ (b : Nat → Nat), b u ≤ X → bz3 f7 f10 t m u b j ≤ X + t u := by
    intro b hb
    have st : ∀ w (b : Nat → Nat), b u ≤ X → mo_tg f7 f10 m u w = nI j → bz4 f7 f10 t m u w b j ≤ X + t u := by
      intro w b hb hw
      unfold bz4
      by_cases q : b u + t u < b j
      · rw [if_pos ⟨hw, by omega, q⟩]; omega
      · rw [if_neg (fun z => q z.2.2)]; omega
    show bz4 f7 f10 t m u 1 (bz4 f7 f10 t m u 0 b) j ≤ _
    rcases he.2 with q | q
    · exact Nat.le_trans bz4_le (st 0 b hb q)
    · exact st 1 _ (Nat.le_trans bz4_le hb) q
  have s2 : it (bz3 f7 f10 t m) (u + 1) b j ≤ X + t u := s1 _ (Nat.le_trans (it_dn0 (fun _ _ _ => bz3_le) b u u) hb)
  have s3 := it_dn (f := bz3 f7 f10 t m) (fun _ _ _ => bz3_le) b j (u + 1) (m - (u + 1))
  rw [show u + 1 + (m - (u + 1)) = m by omega] at s3
  exact Nat.le_trans s3 s2
theorem gw_lt {e : Nat → Nat → Prop} {m j : Nat} (hE : ∀ i j, e i j → j < m) : ∀ (l : List Nat) (i : Nat), gw e i l j → (∀ v ∈ l, v < m) ∧ j < m
  | [], i, h => ⟨fun v hv => absurd hv List.not_mem_nil, hE _ _ h⟩
  | x :: l, i, h => by
    obtain ⟨h1, h2⟩ := gw_lt hE l x h.2
    refine ⟨fun v hv => ?_, h2⟩
    rcases List.mem_cons.mp hv with q | q
    · rw [q]; exact hE _ _ h.1
    · exact h1 v q
theorem bz_bd (hm : m ≤ 24) (ha : a < m) (hB : ∀ v, t v ≤ 9999000) {b : Nat → Nat} (h0 : bzA f7 f10 t m a b) : ∀ r, r ≤ m → ∀ l j, gw (ge f7 f10 m) a l j → l.length < r → it (bz2 f7 f10 t m) r b j ≤ gs t a l
  | 0, _, l, j, _, hl => absurd hl (Nat.not_lt_zero _)
  | r + 1, hr, l, j, hw, hl => by
    have ih := bz_bd hm ha hB h0 r (by omega)
    have hA := bz2_A (n := r) h0
    rcases List.eq_nil_or_concat l with q | ⟨l0, v, q⟩
    · subst q
      have := bz_go (t := t) (r := r) ha (show ge f7 f10 m a j from hw) (X := 0) (by omega) (b := it (bz2 f7 f10 t m) r b) (by rw [hA.1]; omega)
      show bz2 f7 f10 t m r (it (bz2 f7 f10 t m) r b) j ≤ t a
      omega
    · subst q
      simp only [List.concat_eq_append] at hw hl ⊢
      have h2 := (gw_app l0 a).mp hw
      rw [gs_app]
      have hlen : l0.length < r := by
        simp only [List.length_append, List.length_cons, List.length_nil] at hl
        omega
      have hv := ih l0 v h2.1 hlen
      have hvm := (gw_lt (m := m) (fun i j h => h.1) l0 a h2.1).2
      have hgs := gs_le hB l0 a
      have hX : gs t a l0 < 9000000000000 := Nat.lt_of_le_of_lt (Nat.le_trans hgs (Nat.mul_le_mul_right 9999000 (show l0.length + 1 ≤ 25 by omega))) (by decide)
      exact bz_go hvm h2.2 hX hv
end BY
/-- both sides tell the same time -/
theorem time_eq {f6 f7 f8 f9 f10 : Nat → Int32} {m : Nat} (hm : m ≤ 24) (hok : mk_ok f6 f7 f8 f9 f10 m) {T : Nat → Nat → Int32} {L : Nat → Int32} (hI : fw_I (ge f7 f10 m) (gt f6 f8 f9 m) m m T L) {a j : Nat} (ha : a < m) (hj : j < m) (B : Nat → Int64) :
    mo_tm2 (mo_ball f6 f7 f8 f9 f10 m (nI a) B j) = if a = j then 0 else (T a j).toInt64 := by
  have hB := gt_le hok
  have hR := bz_R hm hok (n := m) (bz_0 hm ha (B := B) m (Nat.le_refl _))
  have h0 : bzA f7 f10 (gt f6 f8 f9 m) m a (fun j => if j = a then 0 else 9000000000000) := by
    refine ⟨if_pos rfl, fun j hj => ?_⟩
    by_cases h : j = a
    · exact Or.inr (Or.inl ⟨h, if_pos h⟩)
    · exact Or.inl (if_neg h)
  have hA := bz2_A (n := m) h0
  have hbd := bz_bd hm ha hB h0 m (Nat.le_refl _)
  obtain ⟨e1, e2⟩ := hR j hj
  show mo_tm2 (it (mo_b2 f6 f7 f8 f9 f10 m) m (it (mo_b1 (nI a)) m B) j) = _
  rw [e1]
  generalize hb : it (bz2 f7 f10 (gt f6 f8 f9 m) m) m (fun j => if j = a then 0 else 9000000000000) = b at *
  have hcmp : ∀ x : Nat, x ≤ 9000000000000 → mo_tm2 (lN x) = if x = 9000000000000 then -1 else lN x := by
    intro x hx
    rw [mo_tm2, lN_far]
    by_cases h : x = 9000000000000
    · rw [if_pos h, if_pos ((lg_eq (a := x) (b := 9000000000000) (by omega) (by omega)).mpr h)]
    · rw [if_neg h, if_neg (fun q => h ((lg_eq (a := x) (b := 9000000000000) (by omega) (by omega)).mp q))]
  rw [hcmp _ e2]
  by_cases haj : a = j
  · rw [if_pos haj, ← haj, hA.1, if_neg (by omega)]
    rfl
  · rw [if_neg haj]
    have hwalk : ∀ l, gw (ge f7 f10 m) a l j → b j ≤ gs (gt f6 f8 f9 m) a l ∧ b j < 9000000000000 := by
      intro l hl
      obtain ⟨l', h1, h2, h3, h4⟩ := gw_start (gt f6 f8 f9 m) hl
      have hv := (gw_lt (m := m) (fun i j h => h.1) l' a h1).1
      have hp := pg_hole m (a :: l') h3 (fun v hv' => by
        rcases List.mem_cons.mp hv' with q | q
        · rw [q]; exact ha
        · exact hv v q)
      simp only [List.length_cons] at hp
      have h5 := hbd l' j h1 (by omega)
      have hgs := gs_le hB l' a
      have hX : gs (gt f6 f8 f9 m) a l' < 9000000000000 := Nat.lt_of_le_of_lt (Nat.le_trans hgs (Nat.mul_le_mul_right 9999000 (show l'.length + 1 ≤ 25 by omega))) (by decide)
      omega
    rcases (hI a j ha hj).1 with q | ⟨l, g1, g2, g3, g4⟩
    · have hno : ∀ l, ¬ gw (ge f7 f10 m) a l j := fun l hl => by
        obtain ⟨x, x1, -, x3⟩ := (hI a j ha hj).2.1 l hl (gw_lt (m := m) (fun i j h => h.1) l a hl).1
        exact nI_ne_m1 (p := x) (by omega) (x1.symm.trans q)
      rcases hA.2 j hj with z | ⟨z1, -⟩ | ⟨l, z1, -⟩
      · rw [if_pos z, q]; decide
      · exact absurd z1.symm haj
      · exact absurd z1 (hno l)
    · have w1 := hwalk l g1
      rw [if_neg (by omega)]
      rcases hA.2 j hj with z | ⟨z1, -⟩ | ⟨l2, z1, z2⟩
      · omega
      · exact absurd z1.symm haj
      · obtain ⟨x, x1, x2, x3⟩ := (hI a j ha hj).2.1 l2 z1 (gw_lt (m := m) (fun i j h => h.1) l2 a z1).1
        have : x = gs (gt f6 f8 f9 m) a l := (nI_eq (by omega) (by omega)).mp (x1.symm.trans g3)
        rw [x1, nI_l (by omega)]
        congr 1
        omega
