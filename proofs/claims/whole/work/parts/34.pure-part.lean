/-! one part: what the class sets in its columns is what the reference drafts -/
def ln3 (F : md_F) (k : Nat) : Nat := mo_e (F.2.1 k).toNatClampNeg + mo_e (F.2.2.1 k).toNatClampNeg + 4
def ln4 (F : md_F) (k : Nat) : Nat := ln3 F k + (if F.1 k = 1 then mo_e (F.2.2.2.1 k).toNatClampNeg + 2 else 0)
def ln5 (F : md_F) (k : Nat) : Nat := ln4 F k + (if 4 ≤ F.1 k then 0 else mo_e (F.2.2.2.2 (2 * k)).toNatClampNeg + 2)
def ln6 (F : md_F) (k : Nat) : Nat := ln5 F k + (if F.1 k = 3 then mo_e (F.2.2.2.2 (2 * k + 1)).toNatClampNeg + 2 else 0)
def sl (F : md_F) : Nat → Nat
  | 0 => 0
  | k + 1 => sl F k + (ln6 F k + 1)
abbrev mq (M : Nat → Nat → Int32) (F : md_F) (m : Nat) : Prop := mk_eq M F.1 F.2.1 F.2.2.1 F.2.2.2.1 F.2.2.2.2 m
abbrev mz (F : md_F) (m : Nat) : Prop := mk_ok F.1 F.2.1 F.2.2.1 F.2.2.2.1 F.2.2.2.2 m
def fr (F F' : md_F) (k : Nat) : Prop := ∀ i, i < k → F'.1 i = F.1 i ∧ F'.2.1 i = F.2.1 i ∧ F'.2.2.1 i = F.2.2.1 i ∧ F'.2.2.2.1 i = F.2.2.2.1 i ∧ F'.2.2.2.2 (2 * i) = F.2.2.2.2 (2 * i) ∧ F'.2.2.2.2 (2 * i + 1) = F.2.2.2.2 (2 * i + 1)
theorem fr_sl {F F' : md_F} : ∀ k, fr F F' k → sl F' k = sl F k
  | 0, _ => rfl
  | k + 1, h => by
    obtain ⟨h1, h2, h3, h4, h5, h6⟩ := h k (by omega)
    show sl F' k + (ln6 F' k + 1) = sl F k + (ln6 F k + 1)
    rw [fr_sl k (fun i hi => h i (by omega)), ln6, ln5, ln4, ln3, h1, h2, h3, h4, h5, h6]
    rfl
theorem fr_ok {F F' : md_F} {k : Nat} (h : fr F F' k) (hz : mz F k) : mz F' k := by
  intro i hi
  obtain ⟨h1, h2, h3, h4, h5, h6⟩ := h i hi
  rw [h1, h2, h3, h4, h5, h6]
  exact hz i hi
def rB (n k : Nat) (F0 : md_F) (z : ps_S) (F : md_F) : Prop := z.1 ≤ n ∧ mk_ix z.2.2.1 F.2.1 (k + 1) ∧ z.2.2.2 = k + 1 ∧ mq z.2.1 F (k + 1) ∧ fr F0 F k
def r3 (k kd : Nat) (F : md_F) : Prop := F.1 k = nI kd ∧ (∃ nm, nm < 30 ∧ F.2.1 k = nI nm) ∧ (∃ nu, nu ≤ 9999 ∧ F.2.2.1 k = nI nu)
def r4 (k kd : Nat) (F : md_F) : Prop := (kd = 1 → ∃ sp, 1 ≤ sp ∧ sp ≤ 9999 ∧ F.2.2.2.1 k = nI sp) ∧ (kd ≠ 1 → F.2.2.2.1 k = -1)
def r5 (k kd : Nat) (F : md_F) : Prop := (kd < 4 → ∃ w, w < 30 ∧ F.2.2.2.2 (2 * k) = nI w) ∧ (kd = 4 → F.2.2.2.2 (2 * k) = -1)
def r6 (k kd : Nat) (F : md_F) : Prop := (kd = 3 → ∃ w, w < 30 ∧ F.2.2.2.2 (2 * k + 1) = nI w) ∧ (kd ≠ 3 → F.2.2.2.2 (2 * k + 1) = -1)
/-- a part is read: both say where it is wrong, or both have it -/
def rG (n k kd p0 : Nat) (F0 : md_F) (z : ps_S) (F : md_F) : Prop := rB n k F0 z F ∧ r3 k kd F ∧ r4 k kd F ∧ r5 k kd F ∧ r6 k kd F ∧ p0 + (ln6 F k + 1) ≤ z.1
def rC (n k : Nat) (P : ps_S → md_F → Prop) (a : Int32 × ps_S) (Z : md_S) : Prop := (a.1 = 0 ∧ a.2.1 ≤ n ∧ Z.2.1 = nI a.2.1) ∨ (a.1 = 1 ∧ ∃ F', Z = (a.2.1, -1, k + 1, F') ∧ P a.2 F')
def md_s (k : Nat) (F : md_F) (v : Int32) : md_F := (F.1, F.2.1, F.2.2.1, upd F.2.2.2.1 k v, F.2.2.2.2)
section RP
variable {f f0 : Nat → Int32} {n k kd p0 : Nat} {F0 F : md_F} {z : ps_S}
theorem rB_s (h : rB n k F0 z F) {q : Nat} (hq : q ≤ n) (v : Int32) : rB n k F0 (ps_set (q, z.2) 3 v) (md_s k F v) := by
  obtain ⟨h1, h2, h3, h4, h5⟩ := h
  refine ⟨hq, h2, h3, fun i hi => ?_, fun i hi => ?_⟩
  · obtain ⟨a0, a1, a2, a3, a4, a5⟩ := h4 i hi
    show xg_up z.2.1 3 (z.2.2.2 - 1) v 0 i = F.1 i ∧ xg_up z.2.1 3 (z.2.2.2 - 1) v 1 i = F.2.1 i ∧ xg_up z.2.1 3 (z.2.2.2 - 1) v 2 i = F.2.2.1 i ∧ xg_up z.2.1 3 (z.2.2.2 - 1) v 3 i = upd F.2.2.2.1 k v i ∧ xg_up z.2.1 3 (z.2.2.2 - 1) v 4 i = F.2.2.2.2 (2 * i) ∧ xg_up z.2.1 3 (z.2.2.2 - 1) v 5 i = F.2.2.2.2 (2 * i + 1)
    rw [h3, Nat.add_sub_cancel, xg_at, xg_at, xg_at, xg_at, xg_at, xg_at, if_neg (by omega), if_neg (by omega), if_neg (by omega), if_neg (by omega : ¬ (4 = 3 ∧ i = k)), if_neg (by omega : ¬ (5 = 3 ∧ i = k))]
    refine ⟨a0, a1, a2, ?_, a4, a5⟩
    by_cases e : i = k
    · rw [if_pos ⟨rfl, e⟩, e]; exact pk_us.symm
    · rw [if_neg (fun q => e q.2), pk_un e]; exact a3
  · obtain ⟨a0, a1, a2, a3, a4, a5⟩ := h5 i hi
    exact ⟨a0, a1, a2, (pk_un (by omega)).trans a3, a4, a5⟩
theorem rB_w (h : rB n k F0 z F) {q : Nat} (hq : q ≤ n) (v : Int32) {j : Nat} (hj : j < 2) : rB n k F0 (ps_set (q, z.2) (4 + j) v) (md_w k j F v) := by
  obtain ⟨h1, h2, h3, h4, h5⟩ := h
  refine ⟨hq, h2, h3, fun i hi => ?_, fun i hi => ?_⟩
  · obtain ⟨a0, a1, a2, a3, a4, a5⟩ := h4 i hi
    show xg_up z.2.1 (4 + j) (z.2.2.2 - 1) v 0 i = F.1 i ∧ xg_up z.2.1 (4 + j) (z.2.2.2 - 1) v 1 i = F.2.1 i ∧ xg_up z.2.1 (4 + j) (z.2.2.2 - 1) v 2 i = F.2.2.1 i ∧ xg_up z.2.1 (4 + j) (z.2.2.2 - 1) v 3 i = F.2.2.2.1 i ∧ xg_up z.2.1 (4 + j) (z.2.2.2 - 1) v 4 i = upd F.2.2.2.2 (2 * k + j) v (2 * i) ∧ xg_up z.2.1 (4 + j) (z.2.2.2 - 1) v 5 i = upd F.2.2.2.2 (2 * k + j) v (2 * i + 1)
    rw [h3, Nat.add_sub_cancel, xg_at, xg_at, xg_at, xg_at, xg_at, xg_at, if_neg (by omega), if_neg (by omega), if_neg (by omega), if_neg (by omega : ¬ (3 = 4 + j ∧ i = k))]
    refine ⟨a0, a1, a2, a3, ?_, ?_⟩
    · by_cases e : 4 = 4 + j ∧ i = k
      · rw [if_pos e, show 2 * i = 2 * k + j by omega]; exact pk_us.symm
      · rw [if_neg e, pk_un (by omega)]; exact a4
    · by_cases e : 5 = 4 + j ∧ i = k
      · rw [if_pos e, show 2 * i + 1 = 2 * k + j by omega]; exact pk_us.symm
      · rw [if_neg e, pk_un (by omega)]; exact a5
  · obtain ⟨a0, a1, a2, a3, a4, a5⟩ := h5 i hi
    exact ⟨a0, a1, a2, a3, (pk_un (by omega)).trans a4, (pk_un (by omega)).trans a5⟩
theorem nI_is {a b : Nat} (ha : a ≤ 300) (hb : b ≤ 300) : nI a = nI b ↔ a = b := nI_eq (by omega) (by omega)
/-- a bad value ends both -/
theorem rC_bad {P : ps_S → md_F → Prop} {a : Int32 × ps_S} {h : ps_S → Int32 × ps_S} {Z : md_S} {q : Nat} (hq : q ≤ n) (h1 : a.1 = 0) (h2 : a.2.1 = q) (h3 : Z.2.1 = nI q) : rC n k P (ps_and a h) Z := by
  rw [ps_and, if_pos h1]
  exact Or.inl ⟨rfl, by show a.2.1 ≤ n; omega, by rw [h3, ← h2]⟩
theorem st_7 (hR : tx_R f f0 n) (hn : n ≤ 300) (hB : rB n k F0 z F) (q3 : r3 k kd F) (q4 : r4 k kd F) (q5 : r5 k kd F) (q6 : r6 k kd F) (hl : p0 + ln6 F k ≤ z.1) : rC n k (rG n k kd p0 F0) (ps_skip f n 59 z) (md_q7 f0 n k F (z.1, -1)) := by
  unfold md_q7
  dsimp only
  rcases st_skip hR hn hB.1 59 59 rfl (by omega) z rfl with ⟨h1, h2⟩ | ⟨h0, h1, h2⟩
  · rw [h1, h2]
    exact Or.inl ⟨rfl, hB.1, rfl⟩
  · rw [h1, h2]
    exact Or.inr ⟨rfl, F, rfl, ⟨h0, hB.2⟩, q3, q4, q5, q6, by show p0 + (ln6 F k + 1) ≤ z.1 + 1; omega⟩
theorem st_6 (hR : tx_R f f0 n) (hn : n ≤ 300) (hkd : kd ≤ 4) (hB : rB n k F0 z F) (q3 : r3 k kd F) (q4 : r4 k kd F) (q5 : r5 k kd F) (hw1 : F.2.2.2.2 (2 * k + 1) = -1) (hl : p0 + ln5 F k ≤ z.1) : rC n k (rG n k kd p0 F0) (ps_p5 f n kd z) (md_q6 f0 n k (nI kd) F (z.1, -1)) := by
  rw [ps_p5, md_q6]
  by_cases h : kd = 3
  · rw [if_pos h, if_pos (show nI kd = 3 by rw [h]; rfl), md_nw]
    dsimp only
    rcases st_value hR hn hB.1 44 44 rfl (by omega) 5 0 29 (by omega) (by omega) z rfl with ⟨q, g1, g2, g3, g4⟩ | ⟨v, d, g1, g2, g3, g4, g5, g6, g7⟩
    · refine rC_bad g1 g2 g3 ?_
      rw [bad_q7]
      · exact g4
      · show ¬ (mo_num f0 n (nI 0) (nI 29) (mo_take f0 n 44 z.1 (-1)).1 (mo_take f0 n 44 z.1 (-1)).2).2.2 = -1
        rw [g4]; exact nI_ne_m1 (by omega)
    · have g7 : mo_num f0 n 0 29 (mo_take f0 n 44 z.1 (-1)).1 (mo_take f0 n 44 z.1 (-1)).2 = (nI v, z.1 + d, -1) := g7
      have g6 : ps_value f n 44 5 0 29 z = (1, ps_set (z.1 + d, z.2) 5 (nI v)) := g6
      rw [g6, g7, ps_and, if_neg (show ¬ (1 : Int32) = 0 by decide)]
      have e1 : (md_w k 1 F (nI v)).2.2.2.2 (2 * k) = F.2.2.2.2 (2 * k) := pk_un (by omega)
      have e2 : (md_w k 1 F (nI v)).2.2.2.2 (2 * k + 1) = nI v := pk_us
      refine st_7 (z := ps_set (z.1 + d, z.2) 5 (nI v)) hR hn (rB_w hB g2 (nI v) (j := 1) (by omega)) q3 q4 ?_ ⟨fun _ => ⟨v, by omega, e2⟩, fun q => absurd h q⟩ ?_
      · rw [r5, e1]; exact q5
      · have e3 : ln5 (md_w k 1 F (nI v)) k = ln5 F k := by rw [ln5, ln5, e1]; rfl
        show p0 + ln6 (md_w k 1 F (nI v)) k ≤ z.1 + d
        rw [ln6, e3, e2, nI_clamp (by omega)]
        split <;> omega
  · rw [if_neg h, if_neg (fun q : nI kd = 3 => h ((nI_is (b := 3) (by omega) (by omega)).mp q)), ps_and, if_neg (show ¬ (1 : Int32) = 0 by decide)]
    refine st_7 hR hn hB q3 q4 q5 ⟨fun q => absurd q h, fun _ => hw1⟩ ?_
    rw [ln6, q3.1, if_neg (fun q : nI kd = 3 => h ((nI_is (b := 3) (by omega) (by omega)).mp q))]
    omega
theorem st_5 (hR : tx_R f f0 n) (hn : n ≤ 300) (hkd : kd ≤ 4) (hB : rB n k F0 z F) (q3 : r3 k kd F) (q4 : r4 k kd F) (hw0 : F.2.2.2.2 (2 * k) = -1) (hw1 : F.2.2.2.2 (2 * k + 1) = -1) (hl : p0 + ln4 F k ≤ z.1) : rC n k (rG n k kd p0 F0) (ps_p4 f n kd z) (md_q5 f0 n k (nI kd) F (z.1, -1)) := by
  rw [ps_p4, md_q5]
  by_cases h : kd = 4
  · rw [if_pos h, if_pos (show (4 : Int32) ≤ nI kd by rw [h]; decide), ps_and, if_neg (show ¬ (1 : Int32) = 0 by decide)]
    refine st_6 hR hn hkd hB q3 q4 ⟨fun q => by omega, fun _ => hw0⟩ hw1 ?_
    rw [ln5, q3.1, if_pos (show (4 : Int32) ≤ nI kd by rw [h]; decide)]
    omega
  · have h4 : ¬ (4 : Int32) ≤ nI kd := nI_ge (b := 4) (by omega) (by decide)
    rw [if_neg h, if_neg h4, md_nw]
    dsimp only
    rcases st_value hR hn hB.1 62 62 rfl (by omega) 4 0 29 (by omega) (by omega) z rfl with ⟨q, g1, g2, g3, g4⟩ | ⟨v, d, g1, g2, g3, g4, g5, g6, g7⟩
    · refine rC_bad g1 g2 g3 ?_
      rw [bad_q6]
      · exact g4
      · show ¬ (mo_num f0 n (nI 0) (nI 29) (mo_take f0 n 62 z.1 (-1)).1 (mo_take f0 n 62 z.1 (-1)).2).2.2 = -1
        rw [g4]; exact nI_ne_m1 (by omega)
    · have g7 : mo_num f0 n 0 29 (mo_take f0 n 62 z.1 (-1)).1 (mo_take f0 n 62 z.1 (-1)).2 = (nI v, z.1 + d, -1) := g7
      have g6 : ps_value f n 62 4 0 29 z = (1, ps_set (z.1 + d, z.2) 4 (nI v)) := g6
      rw [g6, g7, ps_and, if_neg (show ¬ (1 : Int32) = 0 by decide)]
      have e1 : (md_w k 0 F (nI v)).2.2.2.2 (2 * k + 1) = F.2.2.2.2 (2 * k + 1) := pk_un (by omega)
      have e2 : (md_w k 0 F (nI v)).2.2.2.2 (2 * k) = nI v := pk_us
      refine st_6 (z := ps_set (z.1 + d, z.2) 4 (nI v)) hR hn hkd (rB_w hB g2 (nI v) (j := 0) (by omega)) q3 q4 ⟨fun _ => ⟨v, by omega, e2⟩, fun q => absurd q h⟩ (e1.trans hw1) ?_
      have e3 : ln4 (md_w k 0 F (nI v)) k = ln4 F k := rfl
      show p0 + ln5 (md_w k 0 F (nI v)) k ≤ z.1 + d
      rw [ln5, e3, e2, nI_clamp (by omega)]
      split <;> omega
theorem st_4 (hR : tx_R f f0 n) (hn : n ≤ 300) (hkd : kd ≤ 4) (hB : rB n k F0 z F) (q3 : r3 k kd F) (hsp : F.2.2.2.1 k = -1) (hw0 : F.2.2.2.2 (2 * k) = -1) (hw1 : F.2.2.2.2 (2 * k + 1) = -1) (hl : p0 + ln3 F k ≤ z.1) : rC n k (rG n k kd p0 F0) (ps_p3 f n kd z) (md_q4 f0 n k (nI kd) F (z.1, -1)) := by
  rw [ps_p3, md_q4]
  by_cases h : kd = 1
  · rw [if_pos h, if_pos (show nI kd = 1 by rw [h]; rfl), md_ns]
    dsimp only
    rcases st_value hR hn hB.1 44 44 rfl (by omega) 3 1 9999 (by omega) (by omega) z rfl with ⟨q, g1, g2, g3, g4⟩ | ⟨v, d, g1, g2, g3, g4, g5, g6, g7⟩
    · refine rC_bad g1 g2 g3 ?_
      rw [bad_q5]
      · exact g4
      · show ¬ (mo_num f0 n (nI 1) (nI 9999) (mo_take f0 n 44 z.1 (-1)).1 (mo_take f0 n 44 z.1 (-1)).2).2.2 = -1
        rw [g4]; exact nI_ne_m1 (by omega)
    · have g7 : mo_num f0 n 1 9999 (mo_take f0 n 44 z.1 (-1)).1 (mo_take f0 n 44 z.1 (-1)).2 = (nI v, z.1 + d, -1) := g7
      have g6 : ps_value f n 44 3 1 9999 z = (1, ps_set (z.1 + d, z.2) 3 (nI v)) := g6
      rw [g6, g7, ps_and, if_neg (show ¬ (1 : Int32) = 0 by decide)]
      have e2 : (md_s k F (nI v)).2.2.2.1 k = nI v := pk_us
      refine st_5 (z := ps_set (z.1 + d, z.2) 3 (nI v)) (F := md_s k F (nI v)) hR hn hkd (rB_s hB g2 (nI v)) q3 ⟨fun _ => ⟨v, by omega, by omega, e2⟩, fun q => absurd h q⟩ hw0 hw1 ?_
      have e3 : ln3 (md_s k F (nI v)) k = ln3 F k := rfl
      show p0 + ln4 (md_s k F (nI v)) k ≤ z.1 + d
      rw [ln4, e3, e2, nI_clamp (by omega)]
      split <;> omega
  · rw [if_neg h, if_neg (fun q : nI kd = 1 => h ((nI_is (b := 1) (by omega) (by omega)).mp q)), ps_and, if_neg (show ¬ (1 : Int32) = 0 by decide)]
    refine st_5 hR hn hkd hB q3 ⟨fun q => absurd q h, fun _ => hsp⟩ hw0 hw1 ?_
    rw [ln4, q3.1, if_neg (fun q : nI kd = 1 => h ((nI_is (b := 1) (by omega) (by omega)).mp q))]
    omega
end RP
