/-! ===== things handed on, acts undone, slots ===== -/
theorem CB.ch0 {k m a : Nat} {c c' : Nat → Nat} (h : CB k m c) (hm : m ≤ 5) (ho : ∀ j, (j < 5 * a ∨ 5 * a + 5 ≤ j) → c' j = c j) (ha : a < m) (hb : 1 ≤ c' (5 * a) ∧ c' (5 * a) ≤ 1000 + 72 * k ∧ c' (5 * a + 1) ≤ 9 ∧ c' (5 * a + 2) ≤ 9 ∧ c' (5 * a + 3) ≤ 90 ∧ c' (5 * a + 4) ≤ k) : CB k m c' := by
  refine ⟨fun p hp => ?_, ?_⟩
  · by_cases e : p = a
    · subst e; exact hb
    · have := h.1 p hp
      rw [ho _ (by omega), ho _ (by omega), ho _ (by omega), ho _ (by omega), ho _ (by omega)]
      omega
  · rw [ho 25 (by omega)]
    exact h.2
theorem CB.put1 {k m a t v : Nat} {c : Nat → Nat} (h : CB k m c) (hm : m ≤ 5) (ha : a < m) (ht : t = 1 ∨ t = 2) (hv : v ≤ 9) : CB k m (updN c (5 * a + t) v) := by
  have hca := h.1 a ha
  refine h.ch0 hm (a := a) (fun j hj => updN_ne _ _ (by omega)) ha ?_
  rcases ht with rfl | rfl
  · rw [updN_ne _ _ (show 5 * a ≠ 5 * a + 1 by omega), updN_eq, updN_ne _ _ (show 5 * a + 2 ≠ 5 * a + 1 by omega), updN_ne _ _ (show 5 * a + 3 ≠ 5 * a + 1 by omega), updN_ne _ _ (show 5 * a + 4 ≠ 5 * a + 1 by omega)]
    omega
  · rw [updN_ne _ _ (show 5 * a ≠ 5 * a + 2 by omega), updN_eq, updN_ne _ _ (show 5 * a + 1 ≠ 5 * a + 2 by omega), updN_ne _ _ (show 5 * a + 3 ≠ 5 * a + 2 by omega), updN_ne _ _ (show 5 * a + 4 ≠ 5 * a + 2 by omega)]
    omega
theorem ok_hand (p o v : Int32) (hv : v = 0 ∨ v = 1) : Ok (fX8_hand p o v) (fX9_hand p o v) := by
  refine ok_of fun k S z hk hG hC => ?_
  have hm := hG.2.1.1
  have hcb := hG.2.1.2.2.2.2
  obtain ⟨c1, c2, c3, c4, c5'⟩ := hC.2.1
  by_cases h : isp p (S.1 1)
  · by_cases h' : isp o (S.1 1)
    · obtain ⟨a, ha, rfl⟩ := isp_of h
      obtain ⟨b, hb, rfl⟩ := isp_of h'
      have hca := hcb.1 a ha
      have hcc := hcb.1 b hb
      rcases hv with rfl | rfl
      · by_cases eab : a = b
        · have e9 : nI a = nI b := by rw [eab]
          refine same hG hC (-3) ?_ fun y hR => ?_
          · unfold fX8_hand
            rw [hasP hm c1, cls, if_pos h, if_neg one0, hasP hm c1, cls, if_pos h', if_neg one0, jns]
            dsimp only
            rw [if_pos rfl, if_pos e9]
          · unfold fX9_hand
            rw [isP hm hR.2.1.1, cls, if_pos h, if_neg one0, isP hm hR.2.1.1, cls, if_pos h', if_neg one0, jns]
            dsimp only
            rw [if_pos rfl, if_pos e9]
        have e9 : ¬ nI a = nI b := fun q => eab ((nI_eq (by omega) (by omega)).mp q)
        by_cases l0 : S.2.1 1 (5 * a + 1) = 0
        · have z0 : nI (S.2.1 1 (5 * a + 1)) = 0 := by rw [l0]; rfl
          refine same hG hC (-3) ?_ fun y hR => ?_
          · unfold fX8_hand
            rw [hasP hm c1, cls, if_pos h, if_neg one0, hasP hm c1, cls, if_pos h', if_neg one0, jns]
            dsimp only
            rw [if_pos rfl, if_neg e9, show fX2_get_2 (nI a) (1 : Int32) z = _ from get2 (c := 1) (by omega) z, cls, c5' _ (Or.inl (by omega)), if_pos z0]
          · unfold fX9_hand
            rw [isP hm hR.2.1.1, cls, if_pos h, if_neg one0, isP hm hR.2.1.1, cls, if_pos h', if_neg one0, jns]
            dsimp only
            rw [if_pos rfl, if_neg e9, lts, c51, rd (by omega), lts, clamp (by omega), hR.2.1.2.2.2.2 _ (Or.inl (by omega)), if_pos z0]
        have z0 : ¬ nI (S.2.1 1 (5 * a + 1)) = 0 := nI_ne0 (by omega) (by omega)
        by_cases l9 : S.2.1 1 (5 * b + 1) = 9
        · have z9 : ¬ nI (S.2.1 1 (5 * b + 1)) < (9 : Int32) := by rw [l9]; decide
          have y9 : nI (S.2.1 1 (5 * b + 1)) = (9 : Int32) := by rw [l9]; rfl
          refine same hG hC (-4) ?_ fun y hR => ?_
          · unfold fX8_hand
            rw [hasP hm c1, cls, if_pos h, if_neg one0, hasP hm c1, cls, if_pos h', if_neg one0, jns]
            dsimp only
            rw [if_pos rfl, if_neg e9, show fX2_get_2 (nI a) (1 : Int32) z = _ from get2 (c := 1) (by omega) z, cls, c5' _ (Or.inl (by omega)), if_neg z0, show fX2_get_2 (nI b) (1 : Int32) z = _ from get2 (c := 1) (by omega) z, cls, c5' _ (Or.inl (by omega)), if_neg z9]
          · unfold fX9_hand
            rw [isP hm hR.2.1.1, cls, if_pos h, if_neg one0, isP hm hR.2.1.1, cls, if_pos h', if_neg one0, jns]
            dsimp only
            rw [if_pos rfl, if_neg e9, lts, c51, rd (by omega), lts, clamp (by omega), hR.2.1.2.2.2.2 _ (Or.inl (by omega)), if_neg z0, lts, c51, rd (by omega), lts, clamp (by omega), hR.2.1.2.2.2.2 _ (Or.inl (by omega)), if_pos y9]
        have z9 : nI (S.2.1 1 (5 * b + 1)) < (9 : Int32) := nI_lt (b := 9) (by omega) (by decide)
        have y9 : ¬ nI (S.2.1 1 (5 * b + 1)) = (9 : Int32) := fun q => l9 ((nI_eq (by omega) (by decide)).mp q)
        have hs1 : ∀ x : Nat, 0 < x → nI x - (1 : Int32) = nI (x - 1) := fun x hx => pk_sub (b := 1) hx
        refine ok_act hG hC (nI (S.2.1 1 (5 * b + 1) + 1)) (updN (updN (S.2.1 1) (5 * a + 1) (S.2.1 1 (5 * a + 1) - 1)) (5 * b + 1) (S.2.1 1 (5 * b + 1) + 1)) ((hcb.up.put1 hm ha (by omega) (by omega)).put1 hm hb (by omega) (by omega)) (fun z1 hrem o1 => ?_) (fun y hR y1 hka o1 k1 => ?_)
        · have hz1 : holds (z1.1 11) (S.1 1) (S.2.1 1) := by rw [(o1 11 (by decide)).1]; exact c5'
          refine ⟨sI (sI z1 11 (5 * a + 1) (nI (S.2.1 1 (5 * a + 1) - 1))) 11 (5 * b + 1) (nI (S.2.1 1 (5 * b + 1) + 1)), ?_, (Out.sI [11] _ _ _ (by decide)).tr (Out.sI _ _ _ _ (by decide)), (hz1.put _ _).put _ _⟩
          have e1 : ∀ v, (sI z1 11 (5 * a + 1) v).1 11 (5 * b + 1) = nI (S.2.1 1 (5 * b + 1)) := fun v => by rw [sI1, if_pos rfl, up1, if_neg (by omega), hz1.at (k := 1) hb (by decide)]
          have e2 : ∀ v w, (sI (sI z1 11 (5 * a + 1) v) 11 (5 * b + 1) w).1 11 (5 * b + 1) = w := fun v w => by rw [sI1, if_pos rfl, up1, if_pos rfl]
          unfold fX8_hand
          rw [hasP hm c1, cls, if_pos h, if_neg one0, hasP hm c1, cls, if_pos h', if_neg one0, jns]
          dsimp only
          rw [if_pos rfl, if_neg e9, show fX2_get_2 (nI a) (1 : Int32) z = _ from get2 (c := 1) (by omega) z, cls, c5' _ (Or.inl (by omega)), if_neg z0, show fX2_get_2 (nI b) (1 : Int32) z = _ from get2 (c := 1) (by omega) z, cls, c5' _ (Or.inl (by omega)), if_pos z9, hrem, cls,
            show ∀ v, fX2_add_2 (nI a) (1 : Int32) v z1 = _ from fun v => add2 (c := 1) (by omega) v z1, cls, show ∀ v x, fX2_add_2 (nI b) (1 : Int32) v x = _ from fun v x => add2 (c := 1) (by omega) v x, cls, show ∀ x, fX2_get_2 (nI b) (1 : Int32) x = _ from fun x => get2 (c := 1) (by omega) x, cls, e2, e1, hz1.at (k := 1) ha (by decide), nsub, hs1 _ (by omega), show nI (S.2.1 1 (5 * b + 1)) + (1 : Int32) = nI (S.2.1 1 (5 * b + 1) + 1) from nI_1 _]
        · have hy1 : holds (y1.1 27) (S.1 1) (S.2.1 1) := by rw [(o1 27 (by decide)).1]; exact hR.2.1.2.2.2.2
          refine ⟨sI (sI y1 27 (5 * a + 1) (nI (S.2.1 1 (5 * a + 1) - 1))) 27 (5 * b + 1) (nI (S.2.1 1 (5 * b + 1) + 1)), ?_, (Out.sI [27] _ _ _ (by decide)).tr (Out.sI _ _ _ _ (by decide)), (hy1.put _ _).put _ _⟩
          have e1 : ∀ v, (sI y1 27 (5 * a + 1) v).1 27 (5 * b + 1) = nI (S.2.1 1 (5 * b + 1)) := fun v => by rw [sI1, if_pos rfl, up1, if_neg (by omega), hy1.at (k := 1) hb (by decide)]
          have e2 : ∀ v w, (sI (sI y1 27 (5 * a + 1) v) 27 (5 * b + 1) w).1 27 (5 * b + 1) = w := fun v w => by rw [sI1, if_pos rfl, up1, if_pos rfl]
          unfold fX9_hand
          rw [isP hm hR.2.1.1, cls, if_pos h, if_neg one0, isP hm hR.2.1.1, cls, if_pos h', if_neg one0, jns]
          dsimp only
          rw [if_pos rfl, if_neg e9, lts, c51, rd (by omega), lts, clamp (by omega), hR.2.1.2.2.2.2 _ (Or.inl (by omega)), if_neg z0, lts, c51, rd (by omega), lts, clamp (by omega), hR.2.1.2.2.2.2 _ (Or.inl (by omega)), if_neg y9, hka, cls,
            lts, rd (by omega), lts, lts, rd (by omega), lts, clamp (by omega), lts, rd (by omega), lts, clamp (by omega), lts, rd (by omega), lts, lts, rd (by omega), lts, clamp (by omega), e2, e1, hy1.at (k := 1) ha (by decide), hs1 _ (by omega), show nI (S.2.1 1 (5 * b + 1)) + (1 : Int32) = nI (S.2.1 1 (5 * b + 1) + 1) from nI_1 _]
      · by_cases eab : a = b
        · have e9 : nI a = nI b := by rw [eab]
          refine same hG hC (-3) ?_ fun y hR => ?_
          · unfold fX8_hand
            rw [hasP hm c1, cls, if_pos h, if_neg one0, hasP hm c1, cls, if_pos h', if_neg one0, jns]
            dsimp only
            rw [if_neg one0, if_pos e9]
          · unfold fX9_hand
            rw [isP hm hR.2.1.1, cls, if_pos h, if_neg one0, isP hm hR.2.1.1, cls, if_pos h', if_neg one0, jns]
            dsimp only
            rw [if_neg one0, if_pos e9]
        have e9 : ¬ nI a = nI b := fun q => eab ((nI_eq (by omega) (by omega)).mp q)
        by_cases l0 : S.2.1 1 (5 * a + 2) = 0
        · have z0 : nI (S.2.1 1 (5 * a + 2)) = 0 := by rw [l0]; rfl
          refine same hG hC (-3) ?_ fun y hR => ?_
          · unfold fX8_hand
            rw [hasP hm c1, cls, if_pos h, if_neg one0, hasP hm c1, cls, if_pos h', if_neg one0, jns]
            dsimp only
            rw [if_neg one0, if_neg e9, show fX2_get_2 (nI a) (2 : Int32) z = _ from get2 (c := 2) (by omega) z, cls, c5' _ (Or.inl (by omega)), if_pos z0]
          · unfold fX9_hand
            rw [isP hm hR.2.1.1, cls, if_pos h, if_neg one0, isP hm hR.2.1.1, cls, if_pos h', if_neg one0, jns]
            dsimp only
            rw [if_neg one0, if_neg e9, lts, c52, rd (by omega), lts, clamp (by omega), hR.2.1.2.2.2.2 _ (Or.inl (by omega)), if_pos z0]
        have z0 : ¬ nI (S.2.1 1 (5 * a + 2)) = 0 := nI_ne0 (by omega) (by omega)
        by_cases l9 : S.2.1 1 (5 * b + 2) = 9
        · have z9 : ¬ nI (S.2.1 1 (5 * b + 2)) < (9 : Int32) := by rw [l9]; decide
          have y9 : nI (S.2.1 1 (5 * b + 2)) = (9 : Int32) := by rw [l9]; rfl
          refine same hG hC (-4) ?_ fun y hR => ?_
          · unfold fX8_hand
            rw [hasP hm c1, cls, if_pos h, if_neg one0, hasP hm c1, cls, if_pos h', if_neg one0, jns]
            dsimp only
            rw [if_neg one0, if_neg e9, show fX2_get_2 (nI a) (2 : Int32) z = _ from get2 (c := 2) (by omega) z, cls, c5' _ (Or.inl (by omega)), if_neg z0, show fX2_get_2 (nI b) (2 : Int32) z = _ from get2 (c := 2) (by omega) z, cls, c5' _ (Or.inl (by omega)), if_neg z9]
          · unfold fX9_hand
            rw [isP hm hR.2.1.1, cls, if_pos h, if_neg one0, isP hm hR.2.1.1, cls, if_pos h', if_neg one0, jns]
            dsimp only
            rw [if_neg one0, if_neg e9, lts, c52, rd (by omega), lts, clamp (by omega), hR.2.1.2.2.2.2 _ (Or.inl (by omega)), if_neg z0, lts, c52, rd (by omega), lts, clamp (by omega), hR.2.1.2.2.2.2 _ (Or.inl (by omega)), if_pos y9]
        have z9 : nI (S.2.1 1 (5 * b + 2)) < (9 : Int32) := nI_lt (b := 9) (by omega) (by decide)
        have y9 : ¬ nI (S.2.1 1 (5 * b + 2)) = (9 : Int32) := fun q => l9 ((nI_eq (by omega) (by decide)).mp q)
        have hs1 : ∀ x : Nat, 0 < x → nI x - (1 : Int32) = nI (x - 1) := fun x hx => pk_sub (b := 1) hx
        refine ok_act hG hC (nI (S.2.1 1 (5 * b + 2) + 1)) (updN (updN (S.2.1 1) (5 * a + 2) (S.2.1 1 (5 * a + 2) - 1)) (5 * b + 2) (S.2.1 1 (5 * b + 2) + 1)) ((hcb.up.put1 hm ha (by omega) (by omega)).put1 hm hb (by omega) (by omega)) (fun z1 hrem o1 => ?_) (fun y hR y1 hka o1 k1 => ?_)
        · have hz1 : holds (z1.1 11) (S.1 1) (S.2.1 1) := by rw [(o1 11 (by decide)).1]; exact c5'
          refine ⟨sI (sI z1 11 (5 * a + 2) (nI (S.2.1 1 (5 * a + 2) - 1))) 11 (5 * b + 2) (nI (S.2.1 1 (5 * b + 2) + 1)), ?_, (Out.sI [11] _ _ _ (by decide)).tr (Out.sI _ _ _ _ (by decide)), (hz1.put _ _).put _ _⟩
          have e1 : ∀ v, (sI z1 11 (5 * a + 2) v).1 11 (5 * b + 2) = nI (S.2.1 1 (5 * b + 2)) := fun v => by rw [sI1, if_pos rfl, up1, if_neg (by omega), hz1.at (k := 2) hb (by decide)]
          have e2 : ∀ v w, (sI (sI z1 11 (5 * a + 2) v) 11 (5 * b + 2) w).1 11 (5 * b + 2) = w := fun v w => by rw [sI1, if_pos rfl, up1, if_pos rfl]
          unfold fX8_hand
          rw [hasP hm c1, cls, if_pos h, if_neg one0, hasP hm c1, cls, if_pos h', if_neg one0, jns]
          dsimp only
          rw [if_neg one0, if_neg e9, show fX2_get_2 (nI a) (2 : Int32) z = _ from get2 (c := 2) (by omega) z, cls, c5' _ (Or.inl (by omega)), if_neg z0, show fX2_get_2 (nI b) (2 : Int32) z = _ from get2 (c := 2) (by omega) z, cls, c5' _ (Or.inl (by omega)), if_pos z9, hrem, cls,
            show ∀ v, fX2_add_2 (nI a) (2 : Int32) v z1 = _ from fun v => add2 (c := 2) (by omega) v z1, cls, show ∀ v x, fX2_add_2 (nI b) (2 : Int32) v x = _ from fun v x => add2 (c := 2) (by omega) v x, cls, show ∀ x, fX2_get_2 (nI b) (2 : Int32) x = _ from fun x => get2 (c := 2) (by omega) x, cls, e2, e1, hz1.at (k := 2) ha (by decide), nsub, hs1 _ (by omega), show nI (S.2.1 1 (5 * b + 2)) + (1 : Int32) = nI (S.2.1 1 (5 * b + 2) + 1) from nI_1 _]
        · have hy1 : holds (y1.1 27) (S.1 1) (S.2.1 1) := by rw [(o1 27 (by decide)).1]; exact hR.2.1.2.2.2.2
          refine ⟨sI (sI y1 27 (5 * a + 2) (nI (S.2.1 1 (5 * a + 2) - 1))) 27 (5 * b + 2) (nI (S.2.1 1 (5 * b + 2) + 1)), ?_, (Out.sI [27] _ _ _ (by decide)).tr (Out.sI _ _ _ _ (by decide)), (hy1.put _ _).put _ _⟩
          have e1 : ∀ v, (sI y1 27 (5 * a + 2) v).1 27 (5 * b + 2) = nI (S.2.1 1 (5 * b + 2)) := fun v => by rw [sI1, if_pos rfl, up1, if_neg (by omega), hy1.at (k := 2) hb (by decide)]
          have e2 : ∀ v w, (sI (sI y1 27 (5 * a + 2) v) 27 (5 * b + 2) w).1 27 (5 * b + 2) = w := fun v w => by rw [sI1, if_pos rfl, up1, if_pos rfl]
          unfold fX9_hand
          rw [isP hm hR.2.1.1, cls, if_pos h, if_neg one0, isP hm hR.2.1.1, cls, if_pos h', if_neg one0, jns]
          dsimp only
          rw [if_neg one0, if_neg e9, lts, c52, rd (by omega), lts, clamp (by omega), hR.2.1.2.2.2.2 _ (Or.inl (by omega)), if_neg z0, lts, c52, rd (by omega), lts, clamp (by omega), hR.2.1.2.2.2.2 _ (Or.inl (by omega)), if_neg y9, hka, cls,
            lts, rd (by omega), lts, lts, rd (by omega), lts, clamp (by omega), lts, rd (by omega), lts, clamp (by omega), lts, rd (by omega), lts, lts, rd (by omega), lts, clamp (by omega), e2, e1, hy1.at (k := 2) ha (by decide), hs1 _ (by omega), show nI (S.2.1 1 (5 * b + 2)) + (1 : Int32) = nI (S.2.1 1 (5 * b + 2) + 1) from nI_1 _]
    · refine same hG hC (-1) ?_ fun y hR => ?_
      · unfold fX8_hand
        rw [hasP hm c1, cls, if_pos h, if_neg one0, hasP hm c1, cls, if_neg h', if_pos rfl]
      · unfold fX9_hand
        rw [isP hm hR.2.1.1, cls, if_pos h, if_neg one0, isP hm hR.2.1.1, cls, if_neg h', if_pos rfl]
  · refine same hG hC (-1) ?_ fun y hR => ?_
    · unfold fX8_hand
      rw [hasP hm c1, cls, if_neg h, if_pos rfl]
    · unfold fX9_hand
      rw [isP hm hR.2.1.1, cls, if_neg h, if_pos rfl]
