/-! ===== meals, toil, water, things handed on ===== -/
theorem CB.chg {k m a : Nat} {c c' : Nat → Nat} (h : CB k m c) (hm : m ≤ 5) (ho : ∀ j, (j < 5 * a ∨ 5 * a + 5 ≤ j) → c' j = c j) (ha : a < m) (hb : 1 ≤ c' (5 * a) ∧ c' (5 * a) ≤ 1000 + 72 * (k + 1) ∧ c' (5 * a + 1) ≤ 9 ∧ c' (5 * a + 2) ≤ 9 ∧ c' (5 * a + 3) ≤ 90 ∧ c' (5 * a + 4) ≤ k + 1) : CB (k + 1) m c' := by
  refine ⟨fun p hp => ?_, ?_⟩
  · by_cases e : p = a
    · subst e; exact hb
    · have := h.1 p hp
      rw [ho _ (by omega), ho _ (by omega), ho _ (by omega), ho _ (by omega), ho _ (by omega)]
      omega
  · rw [ho 25 (by omega)]
    have := h.2
    omega
theorem refus8 {m : Nat} (hm : m ≤ 5) {z : Mem} (h : z.1 2 1 = nI m) (p n : Int32) : fX8_refusalOf p n z = some (if isp p m then (if 1 ≤ n.toInt ∧ n.toInt ≤ 9 then 0 else -2) else -1, z) := by
  unfold fX8_refusalOf
  rw [hasP hm h, cls]
  by_cases q : isp p m
  · rw [if_pos q, if_neg one0, if_pos q]
    have a1 : n < (1 : Int32) ↔ n.toInt < 1 := lt32
    have a2 : n ≤ (9 : Int32) ↔ n.toInt ≤ 9 := le32
    by_cases h1 : n < (1 : Int32)
    · have := a1.mp h1
      rw [if_pos h1, if_neg (by omega)]
    · have b1 : ¬ n.toInt < 1 := fun t => h1 (a1.mpr t)
      rw [if_neg h1]
      by_cases h2 : n ≤ (9 : Int32)
      · have := a2.mp h2
        rw [if_pos h2, if_pos (by omega)]
      · have b2 : ¬ n.toInt ≤ 9 := fun t => h2 (a2.mpr t)
        rw [if_neg h2, if_neg (by omega)]
  · rw [if_neg q, if_pos rfl, if_neg q]
theorem mlt (a b : Nat) {x : Int32} (hx : x = nI a) : x * nI b = nI (a * b) := by rw [hx, pk_mul]
theorem c51 (p : Nat) : (5 : Int32) * nI p + (1 : Int32) = nI (5 * p + 1) := c5 p 1
theorem c52 (p : Nat) : (5 : Int32) * nI p + (2 : Int32) = nI (5 * p + 2) := c5 p 2
theorem c53 (p : Nat) : (5 : Int32) * nI p + (3 : Int32) = nI (5 * p + 3) := c5 p 3
theorem c54 (p : Nat) : (5 : Int32) * nI p + (4 : Int32) = nI (5 * p + 4) := c5 p 4
theorem k8 (b : Nat) : (8 : Int32) * nI b = nI (8 * b) := mlt 8 b rfl
theorem k3 (b : Nat) : (3 : Int32) * nI b = nI (3 * b) := mlt 3 b rfl
theorem k2 (b : Nat) : (2 : Int32) * nI b = nI (2 * b) := mlt 2 b rfl
theorem km5 (b : Nat) : (-5 : Int32) * nI b = -(nI (5 * b)) := by rw [show (-5 : Int32) = -(nI 5) from rfl, Int32.neg_mul, pk_mul]
theorem neg1n : ¬ (-1 : Int32) = 0 := by decide
theorem neg2n : ¬ (-2 : Int32) = 0 := by decide
theorem ok_eat (p n : Int32) : Ok (fX8_eat p n) (fX9_eat p n) := by
  refine ok_of fun k S z hk hG hC => ?_
  have hm := hG.2.1.1
  have hcb := hG.2.1.2.2.2.2
  obtain ⟨c1, c2, c3, c4, c5'⟩ := hC.2.1
  by_cases h : isp p (S.1 1)
  · by_cases g : 1 ≤ n.toInt ∧ n.toInt ≤ 9
    · obtain ⟨a, ha, rfl⟩ := isp_of h
      obtain ⟨b, hb1, hb2, rfl⟩ := rng_of (lo := 1) (hi := 9) g
      have hca := hcb.1 a ha
      by_cases l : b ≤ S.2.1 1 (5 * a + 1)
      · refine ok_act hG hC (nI (S.2.1 1 (5 * a) + 8 * b)) (updN (updN (S.2.1 1) (5 * a + 1) (S.2.1 1 (5 * a + 1) - b)) (5 * a) (S.2.1 1 (5 * a) + 8 * b)) (hcb.chg hm (a := a) (fun j hj => by rw [updN_ne _ _ (by omega), updN_ne _ _ (by omega)]) ha ?_) (fun z1 hrem o1 => ?_) (fun y hR y1 hka o1 k1 => ?_)
        · rw [updN_eq, updN_ne _ _ (by omega), updN_eq, updN_ne _ _ (by omega), updN_ne _ _ (by omega), updN_ne _ _ (by omega), updN_ne _ _ (by omega), updN_ne _ _ (by omega), updN_ne _ _ (by omega)]
          omega
        · have hz1 : holds (z1.1 11) (S.1 1) (S.2.1 1) := by rw [(o1 11 (by decide)).1]; exact c5'
          refine ⟨sI (sI z1 11 (5 * a + 1) (nI (S.2.1 1 (5 * a + 1) - b))) 11 (5 * a) (nI (S.2.1 1 (5 * a) + 8 * b)), ?_, (Out.sI [11] _ _ _ (by decide)).tr (Out.sI _ _ _ _ (by decide)), (hz1.put _ _).put _ _⟩
          have e1 : ∀ v, (sI z1 11 (5 * a + 1) v).1 11 (5 * a) = nI (S.2.1 1 (5 * a)) := fun v => by rw [sI1, if_pos rfl, up1, if_neg (by omega), hz1.at0 ha]
          unfold fX8_eat
          rw [refus8 hm c1, cls, if_pos h, if_pos g, if_pos rfl, show fX2_get_2 (nI a) (1 : Int32) z = _ from get2 (c := 1) (by omega) z, cls, c5' _ (Or.inl (by omega)), if_pos (nI_le l (by omega)), hrem, cls,
            show ∀ v, fX2_add_2 (nI a) (1 : Int32) v z1 = _ from fun v => add2 (c := 1) (by omega) v z1, cls, gain2 (by omega), cls, hz1.at (k := 1) ha (by decide), nsub, pk_sub l, e1, k8, nI_add, mx_nI (by omega) (by omega)]
        · have hy1 : holds (y1.1 27) (S.1 1) (S.2.1 1) := by rw [(o1 27 (by decide)).1]; exact hR.2.1.2.2.2.2
          refine ⟨sI (sI y1 27 (5 * a) (nI (S.2.1 1 (5 * a) + 8 * b))) 27 (5 * a + 1) (nI (S.2.1 1 (5 * a + 1) - b)), ?_, (Out.sI [27] _ _ _ (by decide)).tr (Out.sI _ _ _ _ (by decide)), ?_⟩
          · have e1 : ∀ v, (sI y1 27 (5 * a) v).1 27 (5 * a + 1) = nI (S.2.1 1 (5 * a + 1)) := fun v => by rw [sI1, if_pos rfl, up1, if_neg (by omega), hy1.at (k := 1) ha (by decide)]
            have e2 : ∀ v w, (sI (sI y1 27 (5 * a) v) 27 (5 * a + 1) w).1 27 (5 * a) = v := fun v w => by rw [sI1, if_pos rfl, up1, if_neg (by omega), sI1, if_pos rfl, up1, if_pos rfl]
            unfold fX9_eat
            rw [isP hm hR.2.1.1, cls, if_pos h, if_neg one0, in9i _ 1 9 rfl rfl, cls, if_pos g, if_neg one0, lts, c51, rd (by omega), lts, clamp (by omega), hR.2.1.2.2.2.2 _ (Or.inl (by omega)), if_pos (nI_le l (by omega)), hka, cls,
              lts, c50, rd (by omega), lts, clamp (by omega), hy1.at0 ha, lts, k8, nI_add, rd (by omega), lts, lts, rd (by omega), lts, clamp (by omega), e1, lts, pk_sub l, rd (by omega), lts, lts, rd (by omega), lts, clamp (by omega), e2]
          · have h9 := (hy1.put (5 * a) (S.2.1 1 (5 * a) + 8 * b)).put (5 * a + 1) (S.2.1 1 (5 * a + 1) - b)
            intro j hj
            show upd (upd (y1.1 27) (5 * a) _) (5 * a + 1) _ j = _
            rw [h9 j hj]
            congr 1
            unfold updN
            by_cases q1 : j = 5 * a
            · rw [if_neg (by omega), if_pos q1, if_pos q1]
            · rw [if_neg q1, if_neg q1]
      · refine same hG hC (-3) ?_ fun y hR => ?_
        · unfold fX8_eat
          rw [refus8 hm c1, cls, if_pos h, if_pos g, if_pos rfl, show fX2_get_2 (nI a) (1 : Int32) z = _ from get2 (c := 1) (by omega) z, cls, c5' _ (Or.inl (by omega)), if_neg (nI_ge (by omega) (by omega))]
        · unfold fX9_eat
          rw [isP hm hR.2.1.1, cls, if_pos h, if_neg one0, in9i _ 1 9 rfl rfl, cls, if_pos g, if_neg one0, lts, c51, rd (by omega), lts, clamp (by omega), hR.2.1.2.2.2.2 _ (Or.inl (by omega)), if_neg (nI_ge (by omega) (by omega))]
    · refine same hG hC (-2) ?_ fun y hR => ?_
      · unfold fX8_eat
        rw [refus8 hm c1, cls, if_pos h, if_neg g, if_neg neg2n]
      · unfold fX9_eat
        rw [isP hm hR.2.1.1, cls, if_pos h, if_neg one0, in9i _ 1 9 rfl rfl, cls, if_neg g, if_pos rfl]
  · refine same hG hC (-1) ?_ fun y hR => ?_
    · unfold fX8_eat
      rw [refus8 hm c1, cls, if_neg h, if_neg neg1n]
    · unfold fX9_eat
      rw [isP hm hR.2.1.1, cls, if_neg h, if_pos rfl]
theorem ok_toil (p n : Int32) : Ok (fX8_toil p n) (fX9_toil p n) := by
  refine ok_of fun k S z hk hG hC => ?_
  have hm := hG.2.1.1
  have hcb := hG.2.1.2.2.2.2
  obtain ⟨c1, c2, c3, c4, c5'⟩ := hC.2.1
  by_cases h : isp p (S.1 1)
  · by_cases g : 1 ≤ n.toInt ∧ n.toInt ≤ 9
    · obtain ⟨a, ha, rfl⟩ := isp_of h
      obtain ⟨b, hb1, hb2, rfl⟩ := rng_of (lo := 1) (hi := 9) g
      have hca := hcb.1 a ha
      refine ok_act hG hC (nI (max 1 (S.2.1 1 (5 * a) - 5 * b))) (updN (S.2.1 1) (5 * a) (max 1 (S.2.1 1 (5 * a) - 5 * b))) (hcb.chg hm (a := a) (fun j hj => by rw [updN_ne _ _ (by omega)]) ha ?_) (fun z1 hrem o1 => ?_) (fun y hR y1 hka o1 k1 => ?_)
      · rw [updN_eq, updN_ne _ _ (by omega), updN_ne _ _ (by omega), updN_ne _ _ (by omega), updN_ne _ _ (by omega)]
        omega
      · have hz1 : holds (z1.1 11) (S.1 1) (S.2.1 1) := by rw [(o1 11 (by decide)).1]; exact c5'
        refine ⟨sI z1 11 (5 * a) (nI (max 1 (S.2.1 1 (5 * a) - 5 * b))), ?_, Out.sI [11] _ _ _ (by decide), hz1.put _ _⟩
        unfold fX8_toil
        rw [refus8 hm c1, cls, if_pos h, if_pos g, if_pos rfl, hrem, cls, gain2 (by omega), cls, hz1.at0 ha, km5, nsub, mx_sub (by omega) (by omega)]
      · have hy1 : holds (y1.1 27) (S.1 1) (S.2.1 1) := by rw [(o1 27 (by decide)).1]; exact hR.2.1.2.2.2.2
        refine ⟨sI y1 27 (5 * a) (nI (max 1 (S.2.1 1 (5 * a) - 5 * b))), ?_, Out.sI [27] _ _ _ (by decide), hy1.put _ _⟩
        have e2 : ∀ v, (sI y1 27 (5 * a) v).1 27 (5 * a) = v := fun v => by rw [sI1, if_pos rfl, up1, if_pos rfl]
        unfold fX9_toil
        rw [isP hm hR.2.1.1, cls, if_pos h, if_neg one0, in9i _ 1 9 rfl rfl, cls, if_pos g, if_neg one0, hka, cls, lts, c50, rd (by omega), lts, clamp (by omega), hy1.at0 ha, c50, left9, mx_sub (by omega) (by omega), cls, rd (by omega), lts, lts, rd (by omega), lts, clamp (by omega), e2]
    · refine same hG hC (-2) ?_ fun y hR => ?_
      · unfold fX8_toil
        rw [refus8 hm c1, cls, if_pos h, if_neg g, if_neg neg2n]
      · unfold fX9_toil
        rw [isP hm hR.2.1.1, cls, if_pos h, if_neg one0, in9i _ 1 9 rfl rfl, cls, if_neg g, if_pos rfl]
  · refine same hG hC (-1) ?_ fun y hR => ?_
    · unfold fX8_toil
      rw [refus8 hm c1, cls, if_neg h, if_neg neg1n]
    · unfold fX9_toil
      rw [isP hm hR.2.1.1, cls, if_neg h, if_pos rfl]
theorem ok_drink (p n : Int32) : Ok (fX8_drink p n) (fX9_drink p n) := by
  refine ok_of fun k S z hk hG hC => ?_
  have hm := hG.2.1.1
  have hcb := hG.2.1.2.2.2.2
  obtain ⟨c1, c2, c3, c4, c5'⟩ := hC.2.1
  by_cases h : isp p (S.1 1)
  · by_cases g : 1 ≤ n.toInt ∧ n.toInt ≤ 9
    · obtain ⟨a, ha, rfl⟩ := isp_of h
      obtain ⟨b, hb1, hb2, rfl⟩ := rng_of (lo := 1) (hi := 9) g
      have hca := hcb.1 a ha
      by_cases l : S.2.1 1 (5 * a + 3) + 3 * b ≤ 90
      · have l9 : nI (S.2.1 1 (5 * a + 3) + 3 * b) ≤ (90 : Int32) := nI_le (b := 90) l (by decide)
        refine ok_act hG hC (nI (S.2.1 1 (5 * a) + 3 * b)) (updN (updN (S.2.1 1) (5 * a + 3) (S.2.1 1 (5 * a + 3) + 3 * b)) (5 * a) (S.2.1 1 (5 * a) + 3 * b)) (hcb.chg hm (a := a) (fun j hj => by rw [updN_ne _ _ (by omega), updN_ne _ _ (by omega)]) ha ?_) (fun z1 hrem o1 => ?_) (fun y hR y1 hka o1 k1 => ?_)
        · rw [updN_eq, updN_ne _ _ (show 5 * a + 1 ≠ 5 * a by omega), updN_ne _ _ (show 5 * a + 1 ≠ 5 * a + 3 by omega), updN_ne _ _ (show 5 * a + 2 ≠ 5 * a by omega), updN_ne _ _ (show 5 * a + 2 ≠ 5 * a + 3 by omega), updN_ne _ _ (show 5 * a + 3 ≠ 5 * a by omega), updN_eq, updN_ne _ _ (show 5 * a + 4 ≠ 5 * a by omega), updN_ne _ _ (show 5 * a + 4 ≠ 5 * a + 3 by omega)]
          omega
        · have hz1 : holds (z1.1 11) (S.1 1) (S.2.1 1) := by rw [(o1 11 (by decide)).1]; exact c5'
          refine ⟨sI (sI z1 11 (5 * a + 3) (nI (S.2.1 1 (5 * a + 3) + 3 * b))) 11 (5 * a) (nI (S.2.1 1 (5 * a) + 3 * b)), ?_, (Out.sI [11] _ _ _ (by decide)).tr (Out.sI _ _ _ _ (by decide)), (hz1.put _ _).put _ _⟩
          have e1 : ∀ v, (sI z1 11 (5 * a + 3) v).1 11 (5 * a) = nI (S.2.1 1 (5 * a)) := fun v => by rw [sI1, if_pos rfl, up1, if_neg (by omega), hz1.at0 ha]
          unfold fX8_drink
          rw [refus8 hm c1, cls, if_pos h, if_pos g, if_pos rfl, lts, show fX2_get_2 (nI a) (3 : Int32) z = _ from get2 (c := 3) (by omega) z, cls, c5' _ (Or.inl (by omega)), k3, nI_add, if_pos l9, hrem, cls,
            show ∀ v, fX2_add_2 (nI a) (3 : Int32) v z1 = _ from fun v => add2 (c := 3) (by omega) v z1, cls, gain2 (by omega), cls, hz1.at (k := 3) ha (by decide), nI_add, e1, nI_add, mx_nI (by omega) (by omega)]
        · have hy1 : holds (y1.1 27) (S.1 1) (S.2.1 1) := by rw [(o1 27 (by decide)).1]; exact hR.2.1.2.2.2.2
          refine ⟨sI (sI y1 27 (5 * a) (nI (S.2.1 1 (5 * a) + 3 * b))) 27 (5 * a + 3) (nI (S.2.1 1 (5 * a + 3) + 3 * b)), ?_, (Out.sI [27] _ _ _ (by decide)).tr (Out.sI _ _ _ _ (by decide)), ?_⟩
          · have e1 : ∀ v, (sI y1 27 (5 * a) v).1 27 (5 * a + 3) = nI (S.2.1 1 (5 * a + 3)) := fun v => by rw [sI1, if_pos rfl, up1, if_neg (by omega), hy1.at (k := 3) ha (by decide)]
            have e2 : ∀ v w, (sI (sI y1 27 (5 * a) v) 27 (5 * a + 3) w).1 27 (5 * a) = v := fun v w => by rw [sI1, if_pos rfl, up1, if_neg (by omega), sI1, if_pos rfl, up1, if_pos rfl]
            unfold fX9_drink
            rw [isP hm hR.2.1.1, cls, if_pos h, if_neg one0, in9i _ 1 9 rfl rfl, cls, if_pos g, if_neg one0, lts, c53, rd (by omega), lts, clamp (by omega), hR.2.1.2.2.2.2 _ (Or.inl (by omega)), k3, nI_add, if_pos l9, hka, cls,
              lts, c50, rd (by omega), lts, clamp (by omega), hy1.at0 ha, lts, nI_add, rd (by omega), lts, lts, rd (by omega), lts, clamp (by omega), e1, lts, nI_add, rd (by omega), lts, lts, rd (by omega), lts, clamp (by omega), e2]
          · have h9 := (hy1.put (5 * a) (S.2.1 1 (5 * a) + 3 * b)).put (5 * a + 3) (S.2.1 1 (5 * a + 3) + 3 * b)
            intro j hj
            show upd (upd (y1.1 27) (5 * a) _) (5 * a + 3) _ j = _
            rw [h9 j hj]
            congr 1
            unfold updN
            by_cases q1 : j = 5 * a
            · rw [if_neg (by omega), if_pos q1, if_pos q1]
            · rw [if_neg q1, if_neg q1]
      · have l9 : ¬ nI (S.2.1 1 (5 * a + 3) + 3 * b) ≤ (90 : Int32) := nI_ge (a := 90) (by omega) (by omega)
        refine same hG hC (-3) ?_ fun y hR => ?_
        · unfold fX8_drink
          rw [refus8 hm c1, cls, if_pos h, if_pos g, if_pos rfl, lts, show fX2_get_2 (nI a) (3 : Int32) z = _ from get2 (c := 3) (by omega) z, cls, c5' _ (Or.inl (by omega)), k3, nI_add, if_neg l9]
        · unfold fX9_drink
          rw [isP hm hR.2.1.1, cls, if_pos h, if_neg one0, in9i _ 1 9 rfl rfl, cls, if_pos g, if_neg one0, lts, c53, rd (by omega), lts, clamp (by omega), hR.2.1.2.2.2.2 _ (Or.inl (by omega)), k3, nI_add, if_neg l9]
    · refine same hG hC (-2) ?_ fun y hR => ?_
      · unfold fX8_drink
        rw [refus8 hm c1, cls, if_pos h, if_neg g, if_neg neg2n]
      · unfold fX9_drink
        rw [isP hm hR.2.1.1, cls, if_pos h, if_neg one0, in9i _ 1 9 rfl rfl, cls, if_neg g, if_pos rfl]
  · refine same hG hC (-1) ?_ fun y hR => ?_
    · unfold fX8_drink
      rw [refus8 hm c1, cls, if_neg h, if_neg neg1n]
    · unfold fX9_drink
      rw [isP hm hR.2.1.1, cls, if_neg h, if_pos rfl]
