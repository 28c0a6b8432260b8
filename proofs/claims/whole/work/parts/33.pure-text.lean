/-! reading: the class's text and the reference's -/
def tx_R (f f0 : Nat → Int32) (n : Nat) : Prop := ∀ j, j < n → f j = f0 j ∧ ∃ c : Nat, 32 ≤ c ∧ c ≤ 126 ∧ f0 j = nI c
section RD
variable {f f0 : Nat → Int32} {n : Nat}
theorem rd_look (hR : tx_R f f0 n) (hn : n ≤ 300) {p : Nat} (hp : p ≤ n) : (p < n ∧ ∃ c : Nat, 32 ≤ c ∧ c ≤ 126 ∧ tx_at f n (nI p) = nI c ∧ mo_look f0 n p = nI c) ∨ (p = n ∧ tx_at f n (nI p) = -1 ∧ mo_look f0 n p = 0) := by
  rcases Nat.lt_or_ge p n with h | h
  · obtain ⟨h1, c, h2, h3, h4⟩ := hR p h
    exact Or.inl ⟨h, c, h2, h3, by rw [tx_at_lt h hn, h1, h4], by rw [mo_look, if_pos h, h4]⟩
  · exact Or.inr ⟨by omega, tx_at_ge h (by omega), if_neg (by omega)⟩
theorem rd_dig (hR : tx_R f f0 n) (hn : n ≤ 300) : ∀ (k p : Nat) (v : Int32), p ≤ n → ps_dig f n k p v = mo_dig f0 n k p v
  | 0, _, _, _ => rfl
  | k + 1, p, v, hp => by
    rw [ps_dig, mo_dig, ps_isd]
    rcases rd_look hR hn hp with ⟨h, c, h1, h2, h3, h4⟩ | ⟨h, h3, h4⟩
    · rw [h3, h4]
      by_cases a : nI c < 48
      · rw [if_pos a, if_pos a, if_pos rfl]
      · rw [if_neg a, if_neg a]
        by_cases b : 57 < nI c
        · rw [if_pos b, if_pos b, if_pos rfl]
        · rw [if_neg b, if_neg b, if_neg (by decide), rd_dig hR hn k (p + 1) _ (by omega), Int32.mul_comm v 10]
    · rw [h3, h4, if_pos (by decide), if_pos (by decide)]
theorem rd_digv (hR : tx_R f f0 n) (hn : n ≤ 300) : ∀ (k e p x : Nat), p ≤ n → x < 10 ^ e → k + e ≤ 4 → ∃ d y, d ≤ k ∧ p + d ≤ n ∧ y < 10 ^ (e + d) ∧ mo_dig f0 n k p (nI x) = (p + d, nI y)
  | 0, e, p, x, hp, hx, _ => ⟨0, x, Nat.le_refl _, hp, hx, rfl⟩
  | k + 1, e, p, x, hp, hx, hk => by
    rw [mo_dig]
    rcases rd_look hR hn hp with ⟨h, c, h1, h2, h3, h4⟩ | ⟨h, h3, h4⟩
    · rw [h4]
      by_cases a : nI c < 48
      · rw [if_pos a]; exact ⟨0, x, by omega, hp, hx, rfl⟩
      · rw [if_neg a]
        by_cases b : 57 < nI c
        · rw [if_pos b]; exact ⟨0, x, by omega, hp, hx, rfl⟩
        · rw [if_neg b]
          have a' : 48 ≤ c := Nat.not_lt.mp fun q => a (nI_lt (b := 48) q (by decide))
          have b' : c ≤ 57 := Nat.not_lt.mp fun q => b (nI_lt (a := 57) q (by omega))
          have hpw : 10 ^ (e + 1) = 10 * 10 ^ e := by rw [Nat.pow_succ, Nat.mul_comm]
          have hv : (10 : Int32) * nI x + nI c - 48 = nI (10 * x + c - 48) := by
            rw [show (10 : Int32) * nI x = nI (10 * x) from pk_mul 10 x, nI_add]
            exact pk_sub (b := 48) (by omega)
          obtain ⟨d, y, q1, q2, q3, q4⟩ := rd_digv hR hn k (e + 1) (p + 1) (10 * x + c - 48) (by omega) (by rw [hpw]; omega) (by omega)
          exact ⟨d + 1, y, by omega, by omega, by rw [show e + (d + 1) = e + 1 + d by omega]; exact q3, by rw [hv, q4, show p + 1 + d = p + (d + 1) by omega]⟩
    · rw [h4, if_pos (by decide)]
      exact ⟨0, x, by omega, hp, hx, rfl⟩
theorem mo_e_d {x d : Nat} (hd : 1 ≤ d) (hd4 : d ≤ 4) (h : x < 10 ^ d) : mo_e x + 1 ≤ d := by
  have hc := mo_e_c x
  obtain rfl | rfl | rfl | rfl : d = 1 ∨ d = 2 ∨ d = 3 ∨ d = 4 := by omega
  all_goals
    simp only [Nat.reducePow] at h
    omega
theorem st_num (hR : tx_R f f0 n) (hn : n ≤ 300) {p : Nat} (hp : p ≤ n) (lo hi : Nat) (hlo : lo ≤ 9999) (hhi : hi ≤ 9999) (z : ps_S) (hz : z.1 = p) :
    (ps_num f n (nI lo) (nI hi) z = (-1, z) ∧ (mo_num f0 n (nI lo) (nI hi) p (-1)).2.2 = nI p) ∨ ∃ x d, 1 ≤ d ∧ p + d ≤ n ∧ lo ≤ x ∧ x ≤ hi ∧ mo_e x + 1 ≤ d ∧ ps_num f n (nI lo) (nI hi) z = (nI x, (p + d, z.2)) ∧ mo_num f0 n (nI lo) (nI hi) p (-1) = (nI x, p + d, -1) := by
  obtain ⟨d, y, h1, h2, h3, h4⟩ := rd_digv hR hn 4 0 p 0 hp (by decide) (by decide)
  have h4 : mo_dig f0 n 4 p 0 = (p + d, nI y) := h4
  have h5 : ps_dig f n 4 p 0 = (p + d, nI y) := (rd_dig hR hn 4 p 0 hp).trans h4
  rw [Nat.zero_add] at h3
  have hy : y < 10000 := Nat.lt_of_lt_of_le h3 (Nat.le_trans (Nat.pow_le_pow_right (by decide) h1) (by decide))
  have hm : mo_mark (-1) (nI p) = nI p := if_pos rfl
  rw [ps_num, hz, h5, mo_num, if_pos rfl, h4, mo_nm2]
  dsimp only
  by_cases a : p + d = p
  · rw [if_pos a, if_pos a]; exact Or.inl ⟨rfl, hm⟩
  · rw [if_neg a, if_neg a]
    by_cases b : nI y < nI lo
    · rw [if_pos b, if_pos b]; exact Or.inl ⟨rfl, hm⟩
    · rw [if_neg b, if_neg b]
      by_cases q : nI y ≤ nI hi
      · rw [if_pos q, if_pos q]
        exact Or.inr ⟨y, d, by omega, h2, Nat.not_lt.mp fun w => b (nI_lt w (by omega)), (nI_leI (by omega) (by omega)).mp q, mo_e_d (by omega) h1 h3, rfl, rfl⟩
      · rw [if_neg q, if_neg q]; exact Or.inl ⟨rfl, hm⟩
theorem st_skip (hR : tx_R f f0 n) (hn : n ≤ 300) {p : Nat} (hp : p ≤ n) (x : Int32) (c : Nat) (hx : x = nI c) (hc : 32 ≤ c ∧ c ≤ 126) (z : ps_S) (hz : z.1 = p) :
    (ps_skip f n x z = (0, z) ∧ mo_take f0 n x p (-1) = (p, nI p)) ∨ (p + 1 ≤ n ∧ ps_skip f n x z = (1, (p + 1, z.2)) ∧ mo_take f0 n x p (-1) = (p + 1, -1)) := by
  rw [ps_skip, mo_take, if_pos rfl, hz]
  rcases rd_look hR hn hp with ⟨h, d, h1, h2, h3, h4⟩ | ⟨h, h3, h4⟩
  · rw [h3, h4]
    by_cases q : nI d = x
    · rw [if_pos q, if_pos q]; exact Or.inr ⟨h, rfl, rfl⟩
    · rw [if_neg q, if_neg q]; exact Or.inl ⟨rfl, rfl⟩
  · rw [h3, h4, hx, if_neg (fun q => nI_ne_m1 (p := c) (by omega) q.symm), if_neg (fun q => nI_ne0 (n := c) (by omega) (by omega) q.symm)]
    exact Or.inl ⟨rfl, rfl⟩
theorem st_kind (hR : tx_R f f0 n) (hn : n ≤ 300) {p : Nat} (hp : p ≤ n) : ps_kind (tx_at f n (nI p)) = mo_kind (mo_look f0 n p) ∧ (mo_kind (mo_look f0 n p) = -1 ∨ (p < n ∧ ∃ kd : Nat, kd ≤ 4 ∧ mo_kind (mo_look f0 n p) = nI kd)) := by
  rcases rd_look hR hn hp with ⟨h, d, h1, h2, h3, h4⟩ | ⟨h, h3, h4⟩
  · rw [h3, h4]
    generalize nI d = x
    have L0 : xL 0 = 70 := rfl
    have L1 : xL 1 = 66 := rfl
    have L2 : xL 2 = 82 := rfl
    have L3 : xL 3 = 71 := rfl
    have L4 : xL 4 = 83 := rfl
    refine ⟨by rw [ps_kind, mo_kind, L0, L1, L2, L3, L4]; simp only [@eq_comm Int32 _ x], ?_⟩
    unfold mo_kind
    split
    · exact Or.inr ⟨h, 0, by omega, rfl⟩
    · split
      · exact Or.inr ⟨h, 1, by omega, rfl⟩
      · split
        · exact Or.inr ⟨h, 2, by omega, rfl⟩
        · split
          · exact Or.inr ⟨h, 3, by omega, rfl⟩
          · split
            · exact Or.inr ⟨h, 4, by omega, rfl⟩
            · exact Or.inl rfl
  · rw [h3, h4]
    exact ⟨by decide, Or.inl (by decide)⟩
/-- a value: its sign, then its number -/
theorem st_value (hR : tx_R f f0 n) (hn : n ≤ 300) {p : Nat} (hp : p ≤ n) (x : Int32) (c : Nat) (hx : x = nI c) (hc : 32 ≤ c ∧ c ≤ 126) (col lo hi : Nat) (hlo : lo ≤ 9999) (hhi : hi ≤ 9999) (z : ps_S) (hz : z.1 = p) :
    (∃ q : Nat, q ≤ n ∧ (ps_value f n x col (nI lo) (nI hi) z).1 = 0 ∧ (ps_value f n x col (nI lo) (nI hi) z).2.1 = q ∧ (mo_num f0 n (nI lo) (nI hi) (mo_take f0 n x p (-1)).1 (mo_take f0 n x p (-1)).2).2.2 = nI q) ∨
    ∃ v d, 2 ≤ d ∧ p + d ≤ n ∧ lo ≤ v ∧ v ≤ hi ∧ mo_e v + 2 ≤ d ∧ ps_value f n x col (nI lo) (nI hi) z = (1, ps_set (p + d, z.2) col (nI v)) ∧ mo_num f0 n (nI lo) (nI hi) (mo_take f0 n x p (-1)).1 (mo_take f0 n x p (-1)).2 = (nI v, p + d, -1) := by
  rw [ps_value, ps_and]
  rcases st_skip hR hn hp x c hx hc z hz with ⟨h1, h2⟩ | ⟨h0, h1, h2⟩
  · rw [h1, h2, if_pos rfl]
    exact Or.inl ⟨p, hp, rfl, hz, by rw [mo_num, if_neg (nI_ne_m1 (by omega))]⟩
  · rw [h1, h2, if_neg (show ¬ (1 : Int32) = 0 by decide)]
    dsimp only
    rcases st_num hR hn h0 lo hi hlo hhi (p + 1, z.2) rfl with ⟨g1, g2⟩ | ⟨v, d, g1, g2, g3, g4, g5, g6, g7⟩
    · rw [g1, ps_val2, if_pos rfl]
      exact Or.inl ⟨p + 1, h0, rfl, rfl, g2⟩
    · rw [g6, ps_val2, if_neg (nI_ne_m1 (by omega))]
      exact Or.inr ⟨v, d + 1, by omega, by omega, g3, g4, by omega, by rw [show p + (d + 1) = p + 1 + d by omega], by rw [g7, show p + (d + 1) = p + 1 + d by omega]⟩
end RD
/-! once it is wrong, it stays so -/
section BAD
variable {f : Nat → Int32} {n k : Nat}
theorem bad_take {x : Int32} {p : Nat} {w : Int32} (h : ¬ w = -1) : mo_take f n x p w = (p, w) := by rw [mo_take, if_neg h, mo_mark, if_neg h]
theorem bad_num {lo hi : Int32} {p : Nat} {w : Int32} (h : ¬ w = -1) : mo_num f n lo hi p w = (0, p, w) := by rw [mo_num, if_neg h]
theorem bad_q7 {F : md_F} {b : Nat × Int32} (h : ¬ b.2 = -1) : (md_q7 f n k F b).2.1 = b.2 := by
  show (mo_take f n 59 b.1 b.2).2 = _
  rw [bad_take h]
theorem bad_q6 {kd : Int32} {F : md_F} {b : Nat × Int32} (h : ¬ b.2 = -1) : (md_q6 f n k kd F b).2.1 = b.2 := by
  unfold md_q6
  split
  · unfold md_nw
    rw [bad_take h, bad_num h]
    exact bad_q7 h
  · exact bad_q7 h
theorem bad_q5 {kd : Int32} {F : md_F} {b : Nat × Int32} (h : ¬ b.2 = -1) : (md_q5 f n k kd F b).2.1 = b.2 := by
  unfold md_q5
  split
  · exact bad_q6 h
  · unfold md_nw
    rw [bad_take h, bad_num h]
    exact bad_q6 h
theorem bad_q4 {kd : Int32} {F : md_F} {b : Nat × Int32} (h : ¬ b.2 = -1) : (md_q4 f n k kd F b).2.1 = b.2 := by
  unfold md_q4
  split
  · unfold md_ns
    rw [bad_take h, bad_num h]
    exact bad_q5 h
  · exact bad_q5 h
theorem bad_q3 {kd nm : Int32} {F : md_F} {b : Nat × Int32} (h : ¬ b.2 = -1) : (md_q3 f n k kd nm F b).2.1 = b.2 := by
  unfold md_q3
  rw [bad_num h]
  exact bad_q4 h
theorem bad_dup {g2 : Nat → Int32} {nm : Int32} {p : Nat} {w : Int32} (h : ¬ w = -1) : ∀ j, it (md_dup g2 nm p) j w = w
  | 0 => rfl
  | j + 1 => by
    show md_dup g2 nm p j (it (md_dup g2 nm p) j w) = w
    rw [bad_dup h j, md_dup, if_neg h]
theorem bad_q2 {kd : Int32} {F : md_F} {p : Nat} {a : Int32 × Nat × Int32} (h : ¬ it (md_dup F.2.1 a.1 p) k a.2.2 = -1) : (md_q2 f n k kd F p a).2.1 = it (md_dup F.2.1 a.1 p) k a.2.2 := by
  unfold md_q2
  rw [bad_take h]
  exact bad_q3 h
end BAD
theorem dup_is {g2 : Nat → Int32} {nm : Int32} {p : Nat} (hp : p < 2 ^ 31) : ∀ k, (it (md_dup g2 nm p) k (-1) = -1 ∧ ∀ b, b < k → ¬ g2 b = nm) ∨ (it (md_dup g2 nm p) k (-1) = nI p ∧ ∃ b, b < k ∧ g2 b = nm)
  | 0 => Or.inl ⟨rfl, fun b hb => absurd hb (Nat.not_lt_zero _)⟩
  | k + 1 => by
    show (md_dup g2 nm p k (it (md_dup g2 nm p) k (-1)) = -1 ∧ _) ∨ (md_dup g2 nm p k (it (md_dup g2 nm p) k (-1)) = nI p ∧ _)
    rcases dup_is (g2 := g2) (nm := nm) hp k with ⟨h1, h2⟩ | ⟨h1, b, h2, h3⟩
    · rw [h1, md_dup, if_pos rfl]
      by_cases q : g2 k = nm
      · rw [if_pos q]
        exact Or.inr ⟨if_pos rfl, k, by omega, q⟩
      · rw [if_neg q]
        refine Or.inl ⟨rfl, fun b hb => ?_⟩
        by_cases e : b = k
        · rw [e]; exact q
        · exact h2 b (by omega)
    · rw [h1, md_dup, if_neg (nI_ne_m1 hp)]
      exact Or.inr ⟨rfl, b, by omega, h3⟩
theorem find_none {g : Nat → Int32} {k : Nat} {x : Int32} (h : ∀ b, b < k → ¬ g b = x) : mo_find g k x = -1 := by
  rcases mo_fd_in g x k 0 with ⟨h1, -⟩ | ⟨b, -, h1, -, h2, -⟩
  · exact h1
  · exact absurd h2 (h b (by omega))
theorem find_some {g : Nat → Int32} {k b : Nat} {x : Int32} (hk : k < 2 ^ 31) (hb : b < k) (h : g b = x) : ¬ mo_find g k x = -1 := by
  rcases mo_fd_in g x k 0 with ⟨-, h1⟩ | ⟨b', -, h1, h2, -⟩
  · exact absurd h (h1 b (by omega) (by omega))
  · show ¬ mo_fd g x k 0 = -1
    rw [h2]; exact nI_ne_m1 (by omega)
/-- where the first of that name stands -/
theorem find_at {g : Nat → Int32} {k b : Nat} {x : Int32} (hb : b < k) (h : g b = x) (h0 : ∀ c, c < b → ¬ g c = x) : mo_find g k x = nI b := by
  rcases mo_fd_in g x k 0 with ⟨-, h1⟩ | ⟨b', -, h1, h2, h3, h4⟩
  · exact absurd h (h1 b (by omega) (by omega))
  · have : b' = b := by
      rcases Nat.lt_trichotomy b' b with q | q | q
      · exact absurd h3 (h0 b' q)
      · exact q
      · exact absurd h (h4 b (by omega) q)
    rw [← this]; exact h2
