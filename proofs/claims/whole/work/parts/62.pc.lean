theorem ok_noon : Ok fX8_noon fX9_noon := by
  refine ok_of fun k S z hk hG hC => ?_
  obtain ⟨hm, hb, hil, hlw, hcb⟩ := hG.2.1
  obtain ⟨c1, c2, c3, c4, c5'⟩ := hC.2.1
  have hw : ∀ p, p < S.1 1 → nw (S.2.1 1) p < 2 ^ 20 := fun p hp => by have := hcb.nw (by omega) hp; omega
  cases hq : crw (S.1 1) (S.1 3) (S.1 4) (S.2.1 1) with
  | none =>
    refine ok_act hG hC (-9) (S.2.1 1) hcb.up (fun z1 hrem o1 => ⟨z1, ?_, Out.rf _ _, ?_⟩) (fun y hR y1 hka o1 k1 => ⟨y1, ?_, Out.rf _ _, ?_⟩)
    · unfold fX8_noon
      rw [c4, crowned2 hm hil hlw c1 c3 c5' hw, cls, hq, hrem, cls, if_pos (show enc none = (-9 : Int32) from rfl)]
      rfl
    · rw [(o1 11 (by decide)).1]; exact c5'
    · obtain ⟨r1, r2, r3, r4, r5⟩ := hR.2.1
      unfold fX9_noon
      rw [hka, cls, k1 7 (by decide) (by decide), r4, crown9 hm hil hlw (by rw [k1 6 (by decide) (by decide)]; exact r1) (by rw [k1 9 (by decide) (by decide)]; exact r3) (by rw [(o1 27 (by decide)).1]; exact r5) hw, cls, hq, if_pos (show enc none = (-9 : Int32) from rfl)]
      rfl
    · rw [(o1 27 (by decide)).1]; exact hR.2.1.2.2.2.2
  | some a =>
    have ha := crw_lt hq
    have hca := hcb.1 a ha
    refine ok_act hG hC (nI a) (updN (S.2.1 1) (5 * a + 4) (S.2.1 1 (5 * a + 4) + 1)) (hcb.chg hm (a := a) (fun j hj => by rw [updN_ne _ _ (by omega)]) ha ?_) (fun z1 hrem o1 => ?_) (fun y hR y1 hka o1 k1 => ?_)
    · rw [updN_eq, updN_ne _ _ (by omega), updN_ne _ _ (by omega), updN_ne _ _ (by omega), updN_ne _ _ (by omega)]
      omega
    · have hz1 : holds (z1.1 11) (S.1 1) (S.2.1 1) := by rw [(o1 11 (by decide)).1]; exact c5'
      refine ⟨sI z1 11 (5 * a + 4) (nI (S.2.1 1 (5 * a + 4) + 1)), ?_, Out.sI [11] _ _ _ (by decide), hz1.put _ _⟩
      unfold fX8_noon
      rw [c4, crowned2 hm hil hlw c1 c3 c5' hw, cls, hq, hrem, cls, if_neg (show ¬ enc (some a) = (-9 : Int32) from enc_ne (by omega)), show enc (some a) = nI a from rfl, show ∀ v, fX2_add_2 (nI a) (4 : Int32) v z1 = _ from fun v => add2 (c := 4) (by omega) v z1, cls, hz1.at (k := 4) ha (by decide), show nI (S.2.1 1 (5 * a + 4)) + (1 : Int32) = _ from nI_1 _]
    · obtain ⟨r1, r2, r3, r4, r5⟩ := hR.2.1
      have hy1 : holds (y1.1 27) (S.1 1) (S.2.1 1) := by rw [(o1 27 (by decide)).1]; exact r5
      refine ⟨sI y1 27 (5 * a + 4) (nI (S.2.1 1 (5 * a + 4) + 1)), ?_, Out.sI [27] _ _ _ (by decide), hy1.put _ _⟩
      unfold fX9_noon
      rw [hka, cls, k1 7 (by decide) (by decide), r4, crown9 hm hil hlw (by rw [k1 6 (by decide) (by decide)]; exact r1) (by rw [k1 9 (by decide) (by decide)]; exact r3) hy1 hw, cls, hq, if_neg (show ¬ enc (some a) = (-9 : Int32) from enc_ne (by omega)), show enc (some a) = nI a from rfl, lts, c54, rd (by omega), lts, lts, rd (by omega), lts, clamp (by omega), hy1.at (k := 4) ha (by decide), show nI (S.2.1 1 (5 * a + 4)) + (1 : Int32) = _ from nI_1 _]
/-! ===== counts ===== -/
def csum (c : Nat → Nat) : Nat → Nat
  | 0 => 0
  | i + 1 => csum c i + c (5 * i + 4)
theorem crownings8 {m : Nat} {c : Nat → Nat} {z : Mem} (hm : m ≤ 5) (hz : z.1 2 1 = nI m) (hh : holds (z.1 11) m c) : fX2_crownings z = some (nI (csum c m), z) := by
  have main : ∀ (d i n : Nat), i + d = m → d < n → fX2_crownings_L4 (fun (x1_3 : Int32) (_ : Int32) (z_2 : Mem) => some (x1_3, z_2)) n (nI (csum c i)) (nI i) z = some (nI (csum c m), z) := by
    intro d
    induction d with
    | zero =>
      intro i n h1 h2
      obtain ⟨n, rfl⟩ : ∃ k, n = k + 1 := ⟨n - 1, by omega⟩
      have : i = m := by omega
      subst this
      rw [fX2_crownings_L4_s, hz, if_pos (nI_le (Nat.le_refl i) (by omega))]
    | succ d ih =>
      intro i n h1 h2
      obtain ⟨n, rfl⟩ : ∃ k, n = k + 1 := ⟨n - 1, by omega⟩
      have hi : i < m := by omega
      rw [← ih (i + 1) n (by omega) (by omega), fX2_crownings_L4_s, hz, if_neg (nI_ge hi (by omega)), show fX2_get_2 (nI i) (4 : Int32) z = _ from get2 (c := 4) (by omega) z, cls, hh.at (k := 4) hi (by decide), lts, nI_add, lts, show nI i + (1 : Int32) = nI (i + 1) from nI_1 i]
      rfl
  exact main m 0 FU (by omega) (by unfold FU; omega)
theorem or50 : ∀ b, b < 32 → nI b ||| (0 : Int32) = nI b := by decide
theorem count9 {m il : Nat} {c : Nat → Nat} {z : Mem} (hm : m ≤ 5) (hil : il ≤ 9) (hz : z.1 25 6 = nI m) (h3 : z.1 25 9 = nI il) (hh : holds (z.1 27) m c) (hw : ∀ p, p < m → c (5 * p) < 2 ^ 20) (K : Int32 → Int32 → Int32 → Mem → Option (Int32 × Mem)) :
    ∀ (d i n : Nat), i + d = m → d < n → fX9_count_L7 K n (nI (bsum (fun o => decide (c (5 * o) < 40 * il)) i)) (nI (csum c i)) (nI i) z = K (nI (bsum (fun o => decide (c (5 * o) < 40 * il)) m)) (nI (csum c m)) (nI m) z := by
  intro d
  induction d with
  | zero =>
    intro i n h1 h2
    obtain ⟨n, rfl⟩ : ∃ k, n = k + 1 := ⟨n - 1, by omega⟩
    have : i = m := by omega
    subst this
    rw [fX9_count_L7_s, hz, if_pos (nI_le (Nat.le_refl i) (by omega))]
  | succ d ih =>
    intro i n h1 h2
    obtain ⟨n, rfl⟩ : ∃ k, n = k + 1 := ⟨n - 1, by omega⟩
    have hi : i < m := by omega
    have e1 : nI i + (1 : Int32) = nI (i + 1) := nI_1 i
    have hl := bsum_lt (fun o => decide (c (5 * o) < 40 * il)) i
    have hp : 2 ^ i ≤ 2 ^ 5 := Nat.pow_le_pow_right (by decide) (by omega)
    rw [← ih (i + 1) n (by omega) (by omega), fX9_count_L7_s, hz, if_neg (nI_ge hi (by omega)), illM hm hi hil h3 hh (hw i hi), cls, jns]
    dsimp only
    by_cases g : c (5 * i) < 40 * il
    · have : bsum (fun o => decide (c (5 * o) < 40 * il)) (i + 1) = bsum (fun o => decide (c (5 * o) < 40 * il)) i + 2 ^ i := by
        show _ + (if decide (c (5 * i) < 40 * il) = true then 2 ^ i else 0) = _
        rw [if_pos (by simpa using g)]
      rw [this, if_pos g, if_neg one0, lts, or5 i (by omega) _ hl, lts, c54, rd (by omega), lts, clamp (by omega), hh.at (k := 4) hi (by decide), lts, nI_add, lts, e1]
      rfl
    · have : bsum (fun o => decide (c (5 * o) < 40 * il)) (i + 1) = bsum (fun o => decide (c (5 * o) < 40 * il)) i := by
        show _ + (if decide (c (5 * i) < 40 * il) = true then 2 ^ i else 0) = _
        rw [if_neg (by simpa using g), Nat.add_zero]
      rw [this, if_neg g, if_pos rfl, lts, or50 _ (by omega), lts, c54, rd (by omega), lts, clamp (by omega), hh.at (k := 4) hi (by decide), lts, nI_add, lts, e1]
      rfl
theorem ok_count (p : Int32) : Ok (fX8_count p) (fX9_count p) := by
  refine ok_read fun k S z y hk hG hC hR => ?_
  obtain ⟨hm, hb, hil, hlw, hcb⟩ := hG.2.1
  obtain ⟨c1, c2, c3, c4, c5'⟩ := hC.2.1
  obtain ⟨r1, r2, r3, r4, r5⟩ := hR.2.1
  have hw : ∀ p, p < S.1 1 → S.2.1 1 (5 * p) < 2 ^ 20 := fun p hp => by have := hcb.lt (by omega) hp; omega
  unfold fX8_count fX9_count
  have A := fun K => count9 hm hil r1 r3 r5 hw K (S.1 1) 0 FU (by omega) (by unfold FU; omega)
  have A' : ∀ K, fX9_count_L7 K FU (0 : Int32) (0 : Int32) (0 : Int32) y = _ := A
  rw [A']
  obtain ⟨f, -, -, a2, -⟩ := hC.2.2.1
  obtain ⟨f', -, -, b2, -⟩ := hR.2.2.1
  by_cases w0 : p.toInt = 0
  · rw [if_pos w0, if_pos w0]; exact ⟨nI (S.1 0), by unfold fX1_length; rw [cls, hC.1.1], by rw [hR.1.1]⟩
  rw [if_neg w0, if_neg w0]
  by_cases w1 : p.toInt = 1
  · rw [if_pos w1, if_pos w1]; exact ⟨nI (S.1 1), by unfold fX2_size_2; rw [cls, c1], by rw [r1]⟩
  rw [if_neg w1, if_neg w1]
  by_cases w2 : p.toInt = 2
  · rw [if_pos w2, if_pos w2]; exact ⟨nI (S.2.1 1 25), by rw [today8 (c5' 25 (Or.inr rfl)), cls], by rw [rd25, lts, cl25, r5 25 (Or.inr rfl)]⟩
  rw [if_neg w2, if_neg w2]
  by_cases w3 : p.toInt = 3
  · rw [if_pos w3, if_pos w3]; exact ⟨nI (S.1 5), by unfold fX0_length; rw [cls, a2], by rw [b2]⟩
  rw [if_neg w3, if_neg w3]
  by_cases w4 : p.toInt = 4
  · rw [if_pos w4, if_pos w4]; exact ⟨nI (S.1 6), by unfold fX6_length; rw [cls, hC.2.2.2.2.1.1], by rw [hR.2.2.2.2.1.1]⟩
  rw [if_neg w4, if_neg w4]
  by_cases w5 : p.toInt = 5
  · rw [if_pos w5, if_pos w5]; exact ⟨nI (S.1 7), by unfold fX4_length; rw [cls, hC.2.2.2.2.2.1.1], by rw [hR.2.2.2.2.2.1.1]⟩
  rw [if_neg w5, if_neg w5]
  by_cases w6 : p.toInt = 6
  · rw [if_pos w6, if_pos w6]; exact ⟨nI (S.1 8), by unfold fX3_length; rw [cls, hC.2.2.2.2.2.2.1.1], by rw [hR.2.2.2.2.2.2.1.1]⟩
  rw [if_neg w6, if_neg w6]
  by_cases w7 : p.toInt = 7
  · rw [if_pos w7, if_pos w7]; exact ⟨nI (S.1 4), by rw [c4], by rw [r4]⟩
  rw [if_neg w7, if_neg w7]
  by_cases w8 : p.toInt = 8
  · rw [if_pos w8, if_pos w8]; exact ⟨_, by rw [illB2 hm hil c1 c3 c5' hw, cls], rfl⟩
  rw [if_neg w8, if_neg w8]
  by_cases w9 : p.toInt = 9
  · rw [if_pos w9, if_pos w9]; exact ⟨_, by rw [crownings8 hm c1 c5', cls], rfl⟩
  rw [if_neg w9, if_neg w9]
  exact ⟨_, rfl, rfl⟩
