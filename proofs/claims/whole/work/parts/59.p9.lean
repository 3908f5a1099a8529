/-! ===== a day ===== -/
theorem holds.cg {f : Nat → Int32} {m : Nat} {c c' : Nat → Nat} (h : holds f m c) (e : ∀ j, ix m j → c j = c' j) : holds f m c' := fun j hj => by rw [h j hj, e j hj]
/-- the cells behind a day, of the first i people -/
def dm (b : Nat) (c : Nat → Nat) (i : Nat) : Nat → Nat := fun j => if j < 5 * i then (if j % 5 = 0 then max 1 (c j - (c (j + 3) + 2 * b)) else if j % 5 = 3 then 0 else c j) else c j
theorem dm_ge (b : Nat) (c : Nat → Nat) {i j : Nat} (h : 5 * i ≤ j) : dm b c i j = c j := if_neg (by omega)
theorem dm_step (b : Nat) (c : Nat → Nat) (i j : Nat) : updN (updN (dm b c i) (5 * i) (max 1 (c (5 * i) - (c (5 * i + 3) + 2 * b)))) (5 * i + 3) 0 j = dm b c (i + 1) j := by
  unfold updN dm
  by_cases h3 : j = 5 * i + 3
  · rw [if_pos h3, if_pos (by omega), if_neg (by omega), if_pos (by omega)]
  rw [if_neg h3]
  by_cases h0 : j = 5 * i
  · rw [if_pos h0, if_pos (by omega), if_pos (by omega), h0]
  rw [if_neg h0]
  by_cases hl : j < 5 * i
  · rw [if_pos hl, if_pos (show j < 5 * (i + 1) by omega)]
  rw [if_neg hl]
  by_cases hl2 : j < 5 * (i + 1)
  · rw [if_pos hl2, if_neg (by omega), if_neg (by omega)]
  · rw [if_neg hl2]
theorem ngs (x y w : Int32) : x + (-y - w) = x - (y + w) := by
  rw [← Int32.neg_add, nsub]
theorem sss (x y w : Int32) : x - y - w = x - (y + w) := by
  rw [Int32.sub_eq_add_neg (x - y) w, Int32.sub_eq_add_neg x y, Int32.add_assoc, ← Int32.sub_eq_add_neg (-y) w, ← Int32.neg_add, ← Int32.sub_eq_add_neg]
theorem nself (x : Int32) : x + -x = 0 := by rw [nsub, Int32.sub_self]
theorem pass8 {m b : Nat} {c : Nat → Nat} (hm : m ≤ 5) (hb : b ≤ 9) (hc : ∀ p, p < m → c (5 * p) < 2 ^ 20 ∧ c (5 * p + 3) < 2 ^ 20) (K : Int32 → Mem → Option (Unit × Mem)) :
    ∀ (d i : Nat) (z : Mem) (n : Nat), i + d = m → d < n → z.1 2 1 = nI m → z.1 2 2 = nI b → holds (z.1 11) m (dm b c i) → ∃ z1, fX2_passDay_L13 K n (nI i) z = K (nI m) z1 ∧ holds (z1.1 11) m (dm b c m) ∧ Out [11] z z1 := by
  intro d
  induction d with
  | zero =>
    intro i z n h1 h2 hz hb2 hh
    obtain ⟨n, rfl⟩ : ∃ k, n = k + 1 := ⟨n - 1, by omega⟩
    have : i = m := by omega
    subst this
    exact ⟨z, by rw [fX2_passDay_L13_s, hz, if_pos (nI_le (Nat.le_refl i) (by omega))], hh, Out.rf _ z⟩
  | succ d ih =>
    intro i z n h1 h2 hz hb2 hh
    obtain ⟨n, rfl⟩ : ∃ k, n = k + 1 := ⟨n - 1, by omega⟩
    have hi : i < m := by omega
    have hci := hc i hi
    have v0 : z.1 11 (5 * i) = nI (c (5 * i)) := by rw [hh.at0 hi, dm_ge _ _ (by omega)]
    have v3 : z.1 11 (5 * i + 3) = nI (c (5 * i + 3)) := by rw [hh.at (k := 3) hi (by decide), dm_ge _ _ (by omega)]
    have e3 : ∀ v, (sI z 11 (5 * i) v).1 11 (5 * i + 3) = nI (c (5 * i + 3)) := fun v => by rw [sI1, if_pos rfl, up1, if_neg (by omega), v3]
    obtain ⟨z1, g1, g2, g3⟩ := ih (i + 1) (sI (sI z 11 (5 * i) (nI (max 1 (c (5 * i) - (c (5 * i + 3) + 2 * b))))) 11 (5 * i + 3) (nI 0)) n (by omega) (by omega) hz hb2 (((hh.put _ _).put _ _).cg (fun j _ => dm_step b c i j))
    refine ⟨z1, ?_, g2, ((Out.sI [11] z _ _ (by decide)).tr (Out.sI _ _ _ _ (by decide))).tr g3⟩
    rw [← g1, fX2_passDay_L13_s, hz, if_neg (nI_ge hi (by omega)), show fX2_get_2 (nI i) (3 : Int32) z = _ from get2 (c := 3) (by omega) z, cls, gain2 (by omega), cls, show ∀ v x, fX2_add_2 (nI i) (3 : Int32) v x = _ from fun v x => add2 (c := 3) (by omega) v x, cls, lts, v0, v3, hb2, e3, nself, k2, ngs, nI_add, mx_sub (by omega) (by omega), show nI i + (1 : Int32) = nI (i + 1) from nI_1 i]
    rfl
theorem pass9 {m b : Nat} {c : Nat → Nat} (hm : m ≤ 5) (hb : b ≤ 9) (hc : ∀ p, p < m → c (5 * p) < 2 ^ 20 ∧ c (5 * p + 3) < 2 ^ 20) (K : Int32 → Mem → Option (Int32 × Mem)) :
    ∀ (d i : Nat) (z : Mem) (n : Nat), i + d = m → d < n → z.1 25 6 = nI m → z.1 25 8 = nI b → holds (z.1 27) m (dm b c i) → ∃ z1, fX9_day_L6 K n (nI i) z = K (nI m) z1 ∧ holds (z1.1 27) m (dm b c m) ∧ Out [27] z z1 := by
  intro d
  induction d with
  | zero =>
    intro i z n h1 h2 hz hb2 hh
    obtain ⟨n, rfl⟩ : ∃ k, n = k + 1 := ⟨n - 1, by omega⟩
    have : i = m := by omega
    subst this
    exact ⟨z, by rw [fX9_day_L6_s, hz, if_pos (nI_le (Nat.le_refl i) (by omega))], hh, Out.rf _ z⟩
  | succ d ih =>
    intro i z n h1 h2 hz hb2 hh
    obtain ⟨n, rfl⟩ : ∃ k, n = k + 1 := ⟨n - 1, by omega⟩
    have hi : i < m := by omega
    have hci := hc i hi
    have v0 : z.1 27 (5 * i) = nI (c (5 * i)) := by rw [hh.at0 hi, dm_ge _ _ (by omega)]
    have v3 : z.1 27 (5 * i + 3) = nI (c (5 * i + 3)) := by rw [hh.at (k := 3) hi (by decide), dm_ge _ _ (by omega)]
    obtain ⟨z1, g1, g2, g3⟩ := ih (i + 1) (sI (sI z 27 (5 * i) (nI (max 1 (c (5 * i) - (c (5 * i + 3) + 2 * b))))) 27 (5 * i + 3) (nI 0)) n (by omega) (by omega) hz hb2 (((hh.put _ _).put _ _).cg (fun j _ => dm_step b c i j))
    refine ⟨z1, ?_, g2, ((Out.sI [27] z _ _ (by decide)).tr (Out.sI _ _ _ _ (by decide))).tr g3⟩
    rw [← g1, fX9_day_L6_s, hz, if_neg (nI_ge hi (by omega)), lts, c53, c50, rd (by omega), lts, lts, rd (by omega), lts, clamp (by omega), clamp (by omega), v0, v3, hb2, k2, sss, nI_add, left9, mx_sub (by omega) (by omega), cls, rd (by omega), lts, rd (by omega), lts, lts, show nI i + (1 : Int32) = nI (i + 1) from nI_1 i]
    rfl
theorem ok_day : Ok fX8_day fX9_day := by
  refine ok_of fun k S z hk hG hC => ?_
  have hm := hG.2.1.1
  have hb := hG.2.1.2.1
  have hcb := hG.2.1.2.2.2.2
  obtain ⟨c1, c2, c3, c4, c5'⟩ := hC.2.1
  have big : ∀ p, p < S.1 1 → S.2.1 1 (5 * p) < 2 ^ 20 ∧ S.2.1 1 (5 * p + 3) < 2 ^ 20 := fun p hp => by have := hcb.1 p hp; omega
  have fu : S.1 1 < FU := by unfold FU; omega
  refine ok_act hG hC (nI (S.2.1 1 25 + 1)) (updN (dm (S.1 2) (S.2.1 1) (S.1 1)) 25 (S.2.1 1 25 + 1)) ⟨fun p hp => ?_, by rw [updN_eq]; have := hcb.2; omega⟩ (fun z1 hrem o1 => ?_) (fun y hR y1 hka o1 k1 => ?_)
  · have := hcb.1 p hp
    rw [updN_ne _ _ (by omega), updN_ne _ _ (by omega), updN_ne _ _ (by omega), updN_ne _ _ (by omega), updN_ne _ _ (by omega)]
    unfold dm
    rw [if_pos (by omega), if_pos (by omega), if_pos (by omega), if_neg (by omega), if_neg (by omega), if_pos (by omega), if_neg (by omega), if_neg (by omega), if_pos (by omega), if_neg (by omega), if_pos (by omega), if_pos (by omega), if_neg (by omega), if_neg (by omega)]
    omega
  · have hz1 : holds (z1.1 11) (S.1 1) (S.2.1 1) := by rw [(o1 11 (by decide)).1]; exact c5'
    have e2 := (o1 2 (by decide)).1
    obtain ⟨z2, g1, g2, g3⟩ := pass8 (c := updN (S.2.1 1) 25 (S.2.1 1 25 + 1)) hm hb (fun p hp => by rw [updN_ne _ _ (by omega), updN_ne _ _ (by omega)]; exact big p hp) (fun _ z_7 => some ((), z_7)) (S.1 1) 0 (sI z1 11 25 (nI (S.2.1 1 25 + 1))) FU (by omega) fu (by show z1.1 2 1 = _; rw [e2]; exact c1) (by show z1.1 2 2 = _; rw [e2]; exact c2) ((hz1.put 25 _).cg (fun j _ => by unfold dm; rw [if_neg (by omega)]))
    have cel : holds (z2.1 11) (S.1 1) (updN (dm (S.1 2) (S.2.1 1) (S.1 1)) 25 (S.2.1 1 25 + 1)) := g2.cg (fun j hj => by
      have hj26 := ix26 hm hj
      unfold dm updN
      dsimp only
      by_cases e : j = 25
      · rw [if_neg (by omega), if_pos e, if_pos e]
      · rw [if_neg e, if_neg e]
        by_cases l : j < 5 * S.1 1
        · rw [if_pos l, if_pos l]
          by_cases q0 : j % 5 = 0
          · rw [if_pos q0, if_pos q0, if_neg (by omega)]
          · rw [if_neg q0, if_neg q0]
        · rw [if_neg l, if_neg l])
    refine ⟨z2, ?_, (Out.sI [11] z1 _ _ (by decide)).tr g3, cel⟩
    unfold fX8_day fX2_passDay
    have g1' : fX2_passDay_L13 (fun (x1_8 : Int32) (z_7 : Mem) => some ((), z_7)) FU 0 (sI z1 11 25 (nI (S.2.1 1 25 + 1))) = some ((), z2) := g1
    rw [hrem, cls, rd25, lts, cl25, hz1.day, lts, rd25, lts, show nI (S.2.1 1 25) + (1 : Int32) = nI (S.2.1 1 25 + 1) from nI_1 _, g1', cls, today8 (v := nI (S.2.1 1 25 + 1)) (by rw [cel.day, updN_eq]), cls]
  · have hy1 : holds (y1.1 27) (S.1 1) (S.2.1 1) := by rw [(o1 27 (by decide)).1]; exact hR.2.1.2.2.2.2
    generalize hK : (fun (x1_6 : Int32) (z_5 : Mem) => rg (25 : Int32) 26 (lt ((z_5.1 27 (25 : Int32).toNatClampNeg) : Int32) (fun a_8 => lt ((a_8 + (1 : Int32)) : Int32) (fun y_9 => rg (25 : Int32) 26 (lt (sI z_5 27 (25 : Int32).toNatClampNeg y_9) (fun z_11 => rg (25 : Int32) 26 (lt ((z_11.1 27 (25 : Int32).toNatClampNeg) : Int32) (fun a_13 => (some (a_13, z_11) : Option (Int32 × Mem)))))))))) = K
    obtain ⟨y2, g1, g2, g3⟩ := pass9 (c := S.2.1 1) hm hb big K (S.1 1) 0 y1 FU (by omega) fu (by rw [k1 6 (by decide) (by decide)]; exact hR.2.1.1) (by rw [k1 8 (by decide) (by decide)]; exact hR.2.1.2.1) (hy1.cg (fun j _ => by unfold dm; rw [if_neg (by omega)]))
    have d25 : y2.1 27 25 = nI (S.2.1 1 25) := by rw [g2.day, dm_ge _ _ (by omega)]
    refine ⟨sI y2 27 25 (nI (S.2.1 1 25 + 1)), ?_, g3.tr (Out.sI _ _ _ _ (by decide)), g2.put _ _⟩
    unfold fX9_day
    have g1' : fX9_day_L6 K FU 0 y1 = K (nI (S.1 1)) y2 := g1
    rw [hka, cls, hK, g1', ← hK]
    dsimp only
    rw [rd25, lts, cl25, d25, lts, rd25, lts, rd25, lts, show nI (S.2.1 1 25) + (1 : Int32) = nI (S.2.1 1 25 + 1) from nI_1 _]
    rfl
