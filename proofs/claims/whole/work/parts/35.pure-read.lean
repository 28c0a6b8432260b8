/-! a whole part, and the whole text -/
theorem st_lohi {kd : Nat} (h : kd ≤ 4) : ∃ lo hi : Nat, lo ≤ 9999 ∧ hi ≤ 9999 ∧ xLo kd = nI lo ∧ xHi kd = nI hi ∧ md_lo (nI kd) = nI lo ∧ md_hi (nI kd) = nI hi := by
  obtain rfl | rfl | rfl | rfl | rfl : kd = 0 ∨ kd = 1 ∨ kd = 2 ∨ kd = 3 ∨ kd = 4 := by omega
  · exact ⟨1, 9999, by omega, by omega, rfl, rfl, by decide, by decide⟩
  · exact ⟨1, 9999, by omega, by omega, rfl, rfl, by decide, by decide⟩
  · exact ⟨0, 9999, by omega, by omega, rfl, rfl, by decide, by decide⟩
  · exact ⟨0, 9999, by omega, by omega, rfl, rfl, by decide, by decide⟩
  · exact ⟨1, 999, by omega, by omega, rfl, rfl, by decide, by decide⟩
theorem clr_at {M : Nat → Nat → Int32} {n a i : Nat} : ∀ j, it (mc_clr n) j M a i = if a < j ∧ i = n then -1 else M a i
  | 0 => by rw [if_neg (by omega)]; rfl
  | j + 1 => by
    show xg_up (it (mc_clr n) j M) j n (-1) a i = _
    rw [xg_at, clr_at j]
    by_cases h : a = j ∧ i = n
    · rw [if_pos h, if_pos (by omega)]
    · rw [if_neg h]
      by_cases h2 : a < j ∧ i = n
      · rw [if_pos h2, if_pos (by omega)]
      · rw [if_neg h2, if_neg (by omega)]
theorem new_at {M : Nat → Nat → Int32} {k a i : Nat} {kd nm v : Int32} (ha : a < 6) : xg_up (mc_new M k kd nm) 2 k v a i = if i = k then (if a = 0 then kd else if a = 1 then nm else if a = 2 then v else -1) else M a i := by
  rw [xg_at, mc_new, xg_at, xg_at, clr_at]
  by_cases h : i = k
  · rw [if_pos h]
    obtain rfl | rfl | rfl | rfl | rfl | rfl : a = 0 ∨ a = 1 ∨ a = 2 ∨ a = 3 ∨ a = 4 ∨ a = 5 := by omega
    all_goals simp [h]
  · rw [if_neg h, if_neg (fun q => h q.2), if_neg (fun q => h q.2), if_neg (fun q => h q.2), if_neg (fun q => h q.2)]
section RP2
variable {f f0 : Nat → Int32} {n : Nat}
theorem st_3 (hR : tx_R f f0 n) (hn : n ≤ 300) {k kd p0 p x : Nat} {F : md_F} {M : Nat → Nat → Int32} {X : Nat → Int32} (hkd : kd ≤ 4) (hp : p ≤ n) (hx : x < 30) (hM : mq M F k) (hix : mk_ix X (upd F.2.1 k (nI x)) (k + 1)) (hl : p0 + mo_e x + 2 ≤ p) :
    rC n k (rG n k kd p0 F) (ps_p2 f n kd (p, mc_new M k (nI kd) (nI x), X, k + 1)) (md_q3 f0 n k (nI kd) (nI x) F (mo_take f0 n 61 p (-1))) := by
  obtain ⟨lo, hi, b1, b2, b3, b4, b5, b6⟩ := st_lohi hkd
  rw [ps_p2, md_q3, b3, b4, b5, b6]
  rcases st_value hR hn hp 61 61 rfl (by omega) 2 lo hi b1 b2 (p, mc_new M k (nI kd) (nI x), X, k + 1) rfl with ⟨q, g1, g2, g3, g4⟩ | ⟨v, d, g1, g2, g3, g4, g5, g6, g7⟩
  · refine rC_bad g1 g2 g3 ?_
    rw [bad_q4]
    · exact g4
    · rw [g4]; exact nI_ne_m1 (by omega)
  · rw [g6, g7, ps_and, if_neg (show ¬ (1 : Int32) = 0 by decide)]
    have e1 : (md_put k (nI kd) (nI x) (nI v) F).2.1 k = nI x := pk_us
    have e2 : (md_put k (nI kd) (nI x) (nI v) F).2.2.1 k = nI v := pk_us
    have w0 : (md_put k (nI kd) (nI x) (nI v) F).2.2.2.2 (2 * k) = -1 := (pk_un (by omega)).trans pk_us
    have w1 : (md_put k (nI kd) (nI x) (nI v) F).2.2.2.2 (2 * k + 1) = -1 := pk_us
    refine st_4 (z := ps_set (p + d, mc_new M k (nI kd) (nI x), X, k + 1) 2 (nI v)) (F := md_put k (nI kd) (nI x) (nI v) F) hR hn hkd ⟨g2, hix, rfl, ?_, ?_⟩ ⟨pk_us, ⟨x, hx, e1⟩, ⟨v, by omega, e2⟩⟩ pk_us w0 w1 ?_
    · intro i hi
      show xg_up (mc_new M k (nI kd) (nI x)) 2 (k + 1 - 1) (nI v) 0 i = upd F.1 k (nI kd) i ∧ xg_up (mc_new M k (nI kd) (nI x)) 2 (k + 1 - 1) (nI v) 1 i = upd F.2.1 k (nI x) i ∧ xg_up (mc_new M k (nI kd) (nI x)) 2 (k + 1 - 1) (nI v) 2 i = upd F.2.2.1 k (nI v) i ∧ xg_up (mc_new M k (nI kd) (nI x)) 2 (k + 1 - 1) (nI v) 3 i = upd F.2.2.2.1 k (-1) i ∧ xg_up (mc_new M k (nI kd) (nI x)) 2 (k + 1 - 1) (nI v) 4 i = upd (upd F.2.2.2.2 (2 * k) (-1)) (2 * k + 1) (-1) (2 * i) ∧ xg_up (mc_new M k (nI kd) (nI x)) 2 (k + 1 - 1) (nI v) 5 i = upd (upd F.2.2.2.2 (2 * k) (-1)) (2 * k + 1) (-1) (2 * i + 1)
      rw [Nat.add_sub_cancel, new_at (by omega), new_at (by omega), new_at (by omega), new_at (by omega), new_at (by omega), new_at (by omega)]
      by_cases h : i = k
      · rw [h, pk_us, pk_us, pk_us, pk_us, pk_us, pk_un (by omega), pk_us]
        simp
      · obtain ⟨a0, a1, a2, a3, a4, a5⟩ := hM i (by omega)
        rw [pk_un h, pk_un h, pk_un h, pk_un h, pk_un (by omega), pk_un (by omega), pk_un (by omega), pk_un (by omega), if_neg h, if_neg h, if_neg h, if_neg h, if_neg h, if_neg h]
        exact ⟨a0, a1, a2, a3, a4, a5⟩
    · intro i hi
      exact ⟨pk_un (by omega), pk_un (by omega), pk_un (by omega), pk_un (by omega), (pk_un (by omega)).trans (pk_un (by omega)), (pk_un (by omega)).trans (pk_un (by omega))⟩
    · show p0 + ln3 (md_put k (nI kd) (nI x) (nI v) F) k ≤ p + d
      rw [ln3, e1, e2, nI_clamp (by omega), nI_clamp (by omega)]
      omega
def RI (n : Nat) (z : ps_S) (F : md_F) : Prop := z.1 ≤ n ∧ mq z.2.1 F z.2.2.2 ∧ mz F z.2.2.2 ∧ mk_ix z.2.2.1 F.2.1 z.2.2.2 ∧ sl F z.2.2.2 ≤ z.1
theorem rC_imp {k : Nat} {P P' : ps_S → md_F → Prop} {a : Int32 × ps_S} {Z : md_S} (h : rC n k P a Z) (hp : ∀ z F, P z F → P' z F) : rC n k P' a Z := by
  rcases h with h | ⟨h1, F', h2, h3⟩
  · exact Or.inl h
  · exact Or.inr ⟨h1, F', h2, hp _ _ h3⟩
theorem st_part (hR : tx_R f f0 n) (hn : n ≤ 300) {z : ps_S} {F : md_F} (h : RI n z F) (hk : z.2.2.2 < 24) : rC n z.2.2.2 (fun z' F' => RI n z' F' ∧ z'.2.2.2 = z.2.2.2 + 1) (ps_part f n z) (md_step f0 n (z.1, -1, z.2.2.2, F)) := by
  obtain ⟨h1, h2, h3, h4, h5⟩ := h
  have hst := st_kind hR hn h1
  rw [ps_part, md_step]
  dsimp only
  rw [if_neg (by omega : ¬ z.2.2.2 = 24), hst.1]
  rcases hst.2 with q | ⟨hlt, kd, hkd, q⟩
  · rw [if_pos q, if_pos q]
    exact Or.inl ⟨rfl, h1, (show mo_mark (-1) (nI z.1) = nI z.1 from if_pos rfl)⟩
  · rw [q, if_neg (nI_ne_m1 (by omega)), if_neg (nI_ne_m1 (by omega)), nI_clamp (by omega), ps_p1, md_q1, ps_name]
    rcases st_num hR hn (show z.1 + 1 ≤ n by omega) 0 29 (by omega) (by omega) (z.1 + 1, z.2) rfl with ⟨g1, g2⟩ | ⟨x, d, g1, g2, g3, g4, g5, g6, g7⟩
    · have g1 : ps_num f n 0 29 (z.1 + 1, z.2) = (-1, (z.1 + 1, z.2)) := g1
      have g2 : (mo_num f0 n 0 29 (z.1 + 1) (-1)).2.2 = nI (z.1 + 1) := g2
      have hd : it (md_dup F.2.1 (mo_num f0 n 0 29 (z.1 + 1) (-1)).1 (z.1 + 1)) z.2.2.2 (mo_num f0 n 0 29 (z.1 + 1) (-1)).2.2 = nI (z.1 + 1) := by
        rw [g2]; exact bad_dup (nI_ne_m1 (by omega)) _
      rw [g1, ps_nam2, if_pos rfl]
      refine rC_bad (q := z.1 + 1) (by omega) rfl rfl ?_
      rw [bad_q2]
      · exact hd
      · rw [hd]; exact nI_ne_m1 (by omega)
    · have g6 : ps_num f n 0 29 (z.1 + 1, z.2) = (nI x, (z.1 + 1 + d, z.2)) := g6
      have g7 : mo_num f0 n 0 29 (z.1 + 1) (-1) = (nI x, z.1 + 1 + d, -1) := g7
      have hix : mc_ix z.2.2.1 (nI x) = mo_find F.2.1 z.2.2.2 (nI x) := by
        rw [mc_ix, if_neg (nI_pos (by omega)), if_pos (show nI x < 30 from nI_lt (b := 30) (by omega) (by decide)), nI_clamp (by omega)]
        exact h4 x (by omega)
      rw [g6, g7, ps_nam2, if_neg (nI_ne_m1 (by omega))]
      dsimp only
      rw [hix]
      rcases dup_is (g2 := F.2.1) (nm := nI x) (p := z.1 + 1) (by omega) z.2.2.2 with ⟨d1, d2⟩ | ⟨d1, b, d2, d3⟩
      · rw [if_pos (find_none d2), ps_and, if_neg (show ¬ (1 : Int32) = 0 by decide), md_q2]
        dsimp only
        rw [d1]
        have hX : mk_ix (upd z.2.2.1 x (nI z.2.2.2)) (upd F.2.1 z.2.2.2 (nI x)) (z.2.2.2 + 1) := by
          intro y hy
          by_cases e : y = x
          · rw [e, pk_us]
            refine (find_at (by omega) pk_us (fun c hc => ?_)).symm
            rw [pk_un (by omega)]
            exact d2 c hc
          · rw [pk_un e, h4 y hy]
            have hne : ¬ nI x = nI y := fun q => e ((nI_is (by omega) (by omega)).mp q).symm
            rcases mo_fd_in F.2.1 (nI y) z.2.2.2 0 with ⟨w1, w2⟩ | ⟨b, -, w1, w2, w3, w4⟩
            · refine (show mo_find F.2.1 z.2.2.2 (nI y) = -1 from w1).trans (find_none (fun c hc => ?_)).symm
              by_cases e2 : c = z.2.2.2
              · rw [e2, pk_us]; exact hne
              · rw [pk_un e2]; exact w2 c (by omega) (by omega)
            · refine (show mo_find F.2.1 z.2.2.2 (nI y) = nI b from w2).trans (find_at (by omega) ?_ (fun c hc => ?_)).symm
              · rw [pk_un (by omega)]; exact w3
              · rw [pk_un (by omega)]; exact w4 c (by omega) hc
        have h3' := st_3 (f := f) (f0 := f0) hR hn (p0 := z.1) (x := x) (p := z.1 + 1 + d) hkd g2 (by omega) h2 hX (by omega)
        have e9 : ps_new (z.1 + 1 + d, z.2) (nI kd) (nI x) = (z.1 + 1 + d, mc_new z.2.1 z.2.2.2 (nI kd) (nI x), upd z.2.2.1 x (nI z.2.2.2), z.2.2.2 + 1) := by
          rw [ps_new, nI_clamp (by omega)]
        rw [e9]
        refine rC_imp h3' (fun z' F' hG => ?_)
        obtain ⟨⟨a1, a2, a3, a4, a5⟩, c3, c4, c5, c6, c7⟩ := hG
        refine ⟨⟨a1, by rw [a3]; exact a4, ?_, by rw [a3]; exact a2, ?_⟩, a3⟩
        · rw [a3]
          intro i hi
          by_cases e : i = z.2.2.2
          · obtain ⟨y1, ⟨nm, y2, y3⟩, nu, y4, y5⟩ := c3
            rw [e]
            exact ⟨kd, nm, nu, hkd, y1, y2, y3, y4, y5, c4.1, c4.2, c5.1, c5.2, c6.1, c6.2⟩
          · exact fr_ok a5 h3 i (by omega)
        · rw [a3]
          show sl F' z.2.2.2 + (ln6 F' z.2.2.2 + 1) ≤ z'.1
          rw [fr_sl _ a5]
          omega
      · rw [if_neg (find_some (by omega) d2 d3)]
        refine rC_bad (q := z.1 + 1) (by omega) rfl rfl ?_
        rw [bad_q2]
        · exact d1
        · show ¬ it (md_dup F.2.1 (nI x) (z.1 + 1)) z.2.2.2 (-1) = -1
          rw [d1]; exact nI_ne_m1 (by omega)
theorem ps_loop_0 {a : Int32 × ps_S} (h : a.1 = 0) : ∀ c, ps_loop f n c a = a
  | 0 => rfl
  | c + 1 => by rw [ps_loop, if_pos h]
theorem st_run (hR : tx_R f f0 n) (hn : n ≤ 300) : ∀ (c : Nat) (z : ps_S) (F : md_F), RI n z F → z.2.2.2 + c = 23 →
    ((ps_end n (ps_loop f n c (ps_part f n z))).1 = 0 ∧ (ps_end n (ps_loop f n c (ps_part f n z))).2.1 ≤ n ∧ (md_run f0 n (c + 2) (z.1, -1, z.2.2.2, F)).2.1 = nI (ps_end n (ps_loop f n c (ps_part f n z))).2.1) ∨
    ((ps_end n (ps_loop f n c (ps_part f n z))).1 = 1 ∧ ∃ F', md_run f0 n (c + 2) (z.1, -1, z.2.2.2, F) = ((ps_end n (ps_loop f n c (ps_part f n z))).2.1, -1, (ps_end n (ps_loop f n c (ps_part f n z))).2.2.2.2, F') ∧ RI n (ps_end n (ps_loop f n c (ps_part f n z))).2 F' ∧ 1 ≤ (ps_end n (ps_loop f n c (ps_part f n z))).2.2.2.2) := by
  intro c
  induction c with
  | zero =>
    intro z F h hk
    have hp := st_part hR hn h (by omega)
    show ((ps_end n (ps_part f n z)).1 = 0 ∧ _) ∨ ((ps_end n (ps_part f n z)).1 = 1 ∧ _)
    rw [md_run_s, show ps_loop f n 0 (ps_part f n z) = ps_part f n z from rfl]
    rcases hp with ⟨p1, p2, p3⟩ | ⟨p1, F', p2, p3, p4⟩
    · rw [ps_end, if_pos p1, if_neg (by rw [p3]; exact nI_ne_m1 (by omega))]
      exact Or.inl ⟨rfl, p2, p3⟩
    · rw [p2, ps_end, if_neg (by rw [p1]; decide), if_pos rfl]
      dsimp only
      by_cases e : (ps_part f n z).2.1 = n
      · rw [if_pos e, if_pos (by omega)]
        exact Or.inr ⟨rfl, F', by rw [p4], p3, by show 1 ≤ (ps_part f n z).2.2.2.2; omega⟩
      · have := p3.1
        rw [if_neg e, if_neg (by omega), md_run_s]
        have e2 : md_step f0 n ((ps_part f n z).2.1, -1, z.2.2.2 + 1, F') = ((ps_part f n z).2.1, nI (ps_part f n z).2.1, z.2.2.2 + 1, F') := by
          rw [md_step]
          dsimp only
          rw [if_pos (by omega), mo_mark, if_pos rfl]
        rw [e2]
        dsimp only
        rw [if_neg (nI_ne_m1 (by omega))]
        exact Or.inl ⟨rfl, this, rfl⟩
  | succ c ih =>
    intro z F h hk
    have hp := st_part hR hn h (by omega)
    rw [md_run_s]
    rcases hp with ⟨p1, p2, p3⟩ | ⟨p1, F', p2, p3, p4⟩
    · rw [ps_loop_0 p1, ps_end, if_pos p1, if_neg (by rw [p3]; exact nI_ne_m1 (by omega))]
      exact Or.inl ⟨rfl, p2, p3⟩
    · rw [p2, ps_loop, if_neg (by rw [p1]; decide), if_pos rfl]
      dsimp only
      by_cases e : n ≤ (ps_part f n z).2.1
      · have := p3.1
        rw [if_pos e, if_pos e, ps_end, if_neg (by rw [p1]; decide), if_pos (by omega)]
        exact Or.inr ⟨rfl, F', by rw [p4], p3, by show 1 ≤ (ps_part f n z).2.2.2.2; omega⟩
      · rw [if_neg e, if_neg e, ← p4]
        exact ih _ F' p3 (by omega)
end RP2
/-- the whole text: both say the same fault, or both have the same machine -/
theorem st_all {f f0 : Nat → Int32} {n : Nat} (hR : tx_R f f0 n) (hn : n ≤ 300) (M0 : Nat → Nat → Int32) {ix0 : Nat → Int32} (hix : ∀ j, j < 30 → ix0 j = -1) (F : md_F) :
    ((ps_parts f n (0, M0, ix0, 0)).1 = 0 ∧ (ps_parts f n (0, M0, ix0, 0)).2.1 ≤ n ∧ (md_run f0 n 25 (0, -1, 0, F)).2.1 = nI (ps_parts f n (0, M0, ix0, 0)).2.1) ∨
    ((ps_parts f n (0, M0, ix0, 0)).1 = 1 ∧ ∃ F', md_run f0 n 25 (0, -1, 0, F) = ((ps_parts f n (0, M0, ix0, 0)).2.1, -1, (ps_parts f n (0, M0, ix0, 0)).2.2.2.2, F') ∧ RI n (ps_parts f n (0, M0, ix0, 0)).2 F' ∧ 1 ≤ (ps_parts f n (0, M0, ix0, 0)).2.2.2.2) := by
  have h := st_run hR hn 23 (0, M0, ix0, 0) F ⟨Nat.zero_le _, fun i hi => absurd hi (Nat.not_lt_zero _), fun i hi => absurd hi (Nat.not_lt_zero _), fun x hx => hix x hx, Nat.le_refl _⟩ rfl
  rw [show (23 + 2 : Nat) = 25 from rfl] at h
  dsimp only at h
  unfold ps_parts
  exact h
