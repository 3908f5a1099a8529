/-! ===== slots ===== -/
theorem isSlot8 (p : Int32) (z : Mem) : fX5_isSlot p z = some (if 0 ≤ p.toInt ∧ p.toInt ≤ 1 then 1 else 0, z) := by
  unfold fX5_isSlot
  have e0 : p < 0 ↔ p.toInt < 0 := lt32
  have e1 : (2 : Int32) ≤ p ↔ 2 ≤ p.toInt := le32
  by_cases h1 : p < 0
  · have g1 := e0.mp h1
    rw [if_pos h1, if_neg (by omega)]
  · have g1 : ¬ p.toInt < 0 := fun h => h1 (e0.mpr h)
    rw [if_neg h1]
    by_cases h2 : (2 : Int32) ≤ p
    · have g2 := e1.mp h2
      rw [if_pos h2, if_neg (by omega)]
    · have g2 : ¬ 2 ≤ p.toInt := fun h => h2 (e1.mpr h)
      rw [if_neg h2, if_pos (by omega)]
theorem rd25 {β : Type} (k : Option β) : rg (25 : Int32) 26 k = k := rgs (n := 25) (by decide) (by decide) k
theorem today8 {z : Mem} {v : Int32} (h : z.1 11 25 = v) : fX2_today z = some (v, z) := by
  unfold fX2_today
  rw [rd25, lts]
  show some (z.1 11 25, z) = _
  rw [h]
theorem cl25 : (25 : Int32).toNatClampNeg = 25 := by decide
theorem or_0 : ∀ a b : Nat, a ≤ 1 → b ≤ 1 → nI (a + 2 * b) ||| ((1 : Int32) <<< ((0 : Int32) &&& 31)) = nI (1 + 2 * b) := by
  intro a b ha hb
  rcases (show a = 0 ∨ a = 1 by omega) with rfl | rfl <;> rcases (show b = 0 ∨ b = 1 by omega) with rfl | rfl <;> decide
theorem bit_0 : ∀ a b : Nat, a ≤ 1 → b ≤ 1 → ((nI (a + 2 * b) >>> ((0 : Int32) &&& 31)) &&& (1 : Int32)) = nI a := by
  intro a b ha hb
  rcases (show a = 0 ∨ a = 1 by omega) with rfl | rfl <;> rcases (show b = 0 ∨ b = 1 by omega) with rfl | rfl <;> decide
theorem or_1 : ∀ a b : Nat, a ≤ 1 → b ≤ 1 → nI (a + 2 * b) ||| ((1 : Int32) <<< ((1 : Int32) &&& 31)) = nI (a + 2 * 1) := by
  intro a b ha hb
  rcases (show a = 0 ∨ a = 1 by omega) with rfl | rfl <;> rcases (show b = 0 ∨ b = 1 by omega) with rfl | rfl <;> decide
theorem bit_1 : ∀ a b : Nat, a ≤ 1 → b ≤ 1 → ((nI (a + 2 * b) >>> ((1 : Int32) &&& 31)) &&& (1 : Int32)) = nI b := by
  intro a b ha hb
  rcases (show a = 0 ∨ a = 1 by omega) with rfl | rfl <;> rcases (show b = 0 ∨ b = 1 by omega) with rfl | rfl <;> decide
theorem ok_keep (p : Int32) : Ok (fX8_keep p) (fX9_keep p) := by
  refine ok_of fun k S z hk hG hC => ?_
  have hm := hG.2.1.1
  have hgs := hG.2.2.2.1
  have hcb := hG.2.1.2.2.2.2
  by_cases h : 0 ≤ p.toInt ∧ p.toInt ≤ 1
  · obtain ⟨s, -, hs1, rfl⟩ := rng_of (lo := 0) (hi := 1) h
    have hday := hC.2.1.2.2.2.2 25 (Or.inr rfl)
    have hC4 := hC.2.2.2.1
    rcases (show s = 0 ∨ s = 1 by omega) with rfl | rfl
    · refine ⟨nI (S.2.1 1 25), sI (sR z 13 (va_cpy (z.1 11) (z.1 13) 0 (26 * 0) 26)) 4 1 (nI (1 + 2 * S.1 10)), sT (sS S 9 1) 3 (fun j => if j < 26 then S.2.1 1 j else S.2.1 3 j), ?_, ?_, (AgM.sR z _ (by decide)).tr (AgM.sI _ _ _ (by decide)), ?_, fun y hR => ?_⟩
      · unfold fX8_keep fX5_put
        have e4 : ∀ g, (sR z 13 g).1 4 1 = nI (S.1 9 + 2 * S.1 10) := fun g => hC4.1
        have hd : ∀ g v, (sI (sR z 13 g) 4 1 v).1 11 25 = nI (S.2.1 1 25) := fun g v => hday
        rw [isSlot8, cls, if_pos h, if_neg one0, isSlot8, cls, if_pos h, if_neg one0, copyTo13 (by decide), cls, lts, lts, cls, e4, show nI 0 = (0 : Int32) from rfl, or_0 _ _ hgs.1 hgs.2.1, today8 (hd _ _), cls]
      · obtain ⟨a1, a2, a3, a4, a5, a6, a7, a8⟩ := hC
        refine ⟨a1, a2, a3, ⟨rfl, ?_, ?_⟩, a5, a6, a7, a8⟩
        · intro e j hj
          have hj26 := ix26 hm hj
          show va_cpy (z.1 11) (z.1 13) 0 (26 * 0) 26 j = nI (if j < 26 then S.2.1 1 j else S.2.1 3 j)
          rw [pk_cpy_in (by omega) (by omega), if_pos (by omega), ← a2.2.2.2.2 j hj]
          exact congrArg (z.1 11) (by omega)
        · intro e j hj
          have hj26 := ix26 hm hj
          show va_cpy (z.1 11) (z.1 13) 0 (26 * 0) 26 (26 + j) = nI (if 26 + j < 26 then S.2.1 1 (26 + j) else S.2.1 3 (26 + j))
          rw [pk_cpy_out (by omega), if_neg (by omega)]
          exact hC4.2.2 e j hj
      · obtain ⟨a1, a2, a3, a4, a5⟩ := hG.up
        refine ⟨a1, a2, a3, ⟨Nat.le_refl 1, a4.2.1, ?_, ?_⟩, a5⟩
        · intro e
          refine ⟨fun q hq => ?_, ?_⟩
          · have := a2.2.2.2.2.1 q hq
            show 1 ≤ (if 5 * q < 26 then S.2.1 1 (5 * q) else S.2.1 3 (5 * q)) ∧ (if 5 * q < 26 then S.2.1 1 (5 * q) else S.2.1 3 (5 * q)) ≤ 1000 + 72 * (k + 1) ∧ (if 5 * q + 1 < 26 then S.2.1 1 (5 * q + 1) else S.2.1 3 (5 * q + 1)) ≤ 9 ∧ (if 5 * q + 2 < 26 then S.2.1 1 (5 * q + 2) else S.2.1 3 (5 * q + 2)) ≤ 9 ∧ (if 5 * q + 3 < 26 then S.2.1 1 (5 * q + 3) else S.2.1 3 (5 * q + 3)) ≤ 90 ∧ (if 5 * q + 4 < 26 then S.2.1 1 (5 * q + 4) else S.2.1 3 (5 * q + 4)) ≤ k + 1
            have hq : q < S.1 1 := hq
            rw [if_pos (by omega), if_pos (by omega), if_pos (by omega), if_pos (by omega), if_pos (by omega)]
            exact this
          · show (if 25 < 26 then S.2.1 1 25 else S.2.1 3 25) ≤ k + 1
            rw [if_pos (by decide)]
            exact a2.2.2.2.2.2
        · intro e
          refine ⟨fun q hq => ?_, ?_⟩
          · have := (a4.2.2.2 e).1 q hq
            have hq : q < S.1 1 := hq
            have key : ∀ r, r < 5 → (sT (sS S 9 1) 3 (fun j => if j < 26 then S.2.1 1 j else S.2.1 3 j)).2.1 3 (26 + (5 * q + r)) = S.2.1 3 (26 + (5 * q + r)) := fun r hr => by
              show (if 26 + (5 * q + r) < 26 then S.2.1 1 (26 + (5 * q + r)) else S.2.1 3 (26 + (5 * q + r))) = _
              rw [if_neg (by omega)]
            have k0 := key 0 (by decide)
            rw [Nat.add_zero] at k0
            show 1 ≤ (sT (sS S 9 1) 3 (fun j => if j < 26 then S.2.1 1 j else S.2.1 3 j)).2.1 3 (26 + 5 * q) ∧ (sT (sS S 9 1) 3 (fun j => if j < 26 then S.2.1 1 j else S.2.1 3 j)).2.1 3 (26 + 5 * q) ≤ 1000 + 72 * (k + 1) ∧ (sT (sS S 9 1) 3 (fun j => if j < 26 then S.2.1 1 j else S.2.1 3 j)).2.1 3 (26 + (5 * q + 1)) ≤ 9 ∧ (sT (sS S 9 1) 3 (fun j => if j < 26 then S.2.1 1 j else S.2.1 3 j)).2.1 3 (26 + (5 * q + 2)) ≤ 9 ∧ (sT (sS S 9 1) 3 (fun j => if j < 26 then S.2.1 1 j else S.2.1 3 j)).2.1 3 (26 + (5 * q + 3)) ≤ 90 ∧ (sT (sS S 9 1) 3 (fun j => if j < 26 then S.2.1 1 j else S.2.1 3 j)).2.1 3 (26 + (5 * q + 4)) ≤ k + 1
            rw [k0, key 1 (by decide), key 2 (by decide), key 3 (by decide), key 4 (by decide)]
            exact this
          · show (if 26 + 25 < 26 then S.2.1 1 (26 + 25) else S.2.1 3 (26 + 25)) ≤ k + 1
            rw [if_neg (by decide)]
            exact (a4.2.2.2 e).2
      · generalize hK : (fun (x2_9 : Int32) (z_8 : Mem) => rg (25 : Int32) 26 (lt ((z_8.1 27 (25 : Int32).toNatClampNeg) : Int32) (fun a_11 => (some (a_11, z_8) : Option (Int32 × Mem))))) = K
        obtain ⟨y1, g1, g2, g3, g4, g5⟩ := copy_loop (fX9_keep_L21 K (nI 0)) K 26 27 42 (26 * 0) 0 (fun x => True) (by decide)
          (fun n i x hp hi => by
            rw [fX9_keep_L21_s, if_neg (ge26 hi), rgs hi (by decide), lts, m26, rgs (by omega) (by decide), lts, lts, clamp (by omega), clamp (by omega), show nI i + (1 : Int32) = nI (i + 1) from nI_1 i, Nat.zero_add])
          (fun n x hp => by rw [fX9_keep_L21_s, if_pos (show (26 : Int32) ≤ nI 26 by decide)])
          (fun x i v hp => trivial) 26 0 (sI y 41 0 1) FU rfl fu26 trivial
        have oy : ∀ q, q ≠ 41 → q ≠ 42 → y1.1 q = y.1 q := fun q a b => by
          rw [(g5 q (by simp [b])).1, sI1, if_neg a]
        have o41 : ∀ q, y1.1 41 q = if q = 0 then 1 else y.1 41 q := fun q => by
          rw [(g5 41 (by decide)).1, sI1, if_pos rfl, up1]
        refine ⟨y1, ?_, ?_, (AgC.sI y _ _ (by decide)).tr (g5.C (by decide))⟩
        · unfold fX9_keep
          have g1' : fX9_keep_L21 K (nI 0) FU 0 (sI y 41 0 1) = K (nI 26) y1 := g1
          rw [in9i (nI 0) 0 1 rfl rfl, cls, if_pos h, if_neg one0, rgs (by decide) (by decide), lts, clamp (by decide), show vp_nar .boolean (1 : Int32) = 1 from rfl, hK, g1', ← hK]
          show rg (25 : Int32) 26 _ = _
          rw [rd25, lts, cl25, oy 27 (by decide) (by decide), hR.2.1.2.2.2.2 25 (Or.inr rfl)]
        · obtain ⟨a1, a2, a3, a4, a5, a6, a7, a8⟩ := id hR
          have e25 := oy 25 (by decide) (by decide)
          have g4 : ∀ q, (q < 26 * 0 + 0 ∨ 26 * 0 + 26 ≤ q) → y1.1 42 q = y.1 42 q := fun q hq => g4 q hq
          have g3 : ∀ j, 0 ≤ j → j < 26 → y1.1 42 (26 * 0 + j) = y.1 27 (0 + j) := fun j p q => g3 j p q
          refine ⟨a1.go (by rw [e25]) (oy 28 (by decide) (by decide)), a2.go (by rw [e25]) (by rw [e25]) (by rw [e25]) (by rw [e25]) (oy 27 (by decide) (by decide)), a3.go (by rw [e25]) (by rw [e25]) (oy 29 (by decide) (by decide)), ⟨?_, ?_, ?_, ?_⟩, a5.go (by rw [e25]) (oy 30 (by decide) (by decide)) (oy 31 (by decide) (by decide)) (oy 32 (by decide) (by decide)), a6.go (by rw [e25]) (oy 33 (by decide) (by decide)) (oy 34 (by decide) (by decide)), a7.go (by rw [e25]) (oy 37 (by decide) (by decide)), a8.go (by rw [(g5 25 (by decide)).2]; rfl)⟩
          · rw [o41]; rfl
          · rw [o41]; exact a4.2.1
          · intro e j hj
            have hj26 := ix26 hm hj
            have g := g3 j (Nat.zero_le j) hj26
            rw [Nat.mul_zero, Nat.zero_add] at g
            show y1.1 42 j = nI (if j < 26 then S.2.1 1 j else S.2.1 3 j)
            rw [g, if_pos (by omega)]
            exact hR.2.1.2.2.2.2 j hj
          · intro e j hj
            have hj26 := ix26 hm hj
            show y1.1 42 (26 + j) = nI (if 26 + j < 26 then S.2.1 1 (26 + j) else S.2.1 3 (26 + j))
            rw [g4 _ (by omega), if_neg (by omega)]
            exact hR.2.2.2.1.2.2.2 e j hj
    · refine ⟨nI (S.2.1 1 25), sI (sR z 13 (va_cpy (z.1 11) (z.1 13) 0 (26 * 1) 26)) 4 1 (nI (S.1 9 + 2 * 1)), sT (sS S 10 1) 3 (fun j => if 26 ≤ j then S.2.1 1 (j - 26) else S.2.1 3 j), ?_, ?_, (AgM.sR z _ (by decide)).tr (AgM.sI _ _ _ (by decide)), ?_, fun y hR => ?_⟩
      · unfold fX8_keep fX5_put
        have e4 : ∀ g, (sR z 13 g).1 4 1 = nI (S.1 9 + 2 * S.1 10) := fun g => hC4.1
        have hd : ∀ g v, (sI (sR z 13 g) 4 1 v).1 11 25 = nI (S.2.1 1 25) := fun g v => hday
        rw [isSlot8, cls, if_pos h, if_neg one0, isSlot8, cls, if_pos h, if_neg one0, copyTo13 (by decide), cls, lts, lts, cls, e4, show nI 1 = (1 : Int32) from rfl, or_1 _ _ hgs.1 hgs.2.1, today8 (hd _ _), cls]
      · obtain ⟨a1, a2, a3, a4, a5, a6, a7, a8⟩ := hC
        refine ⟨a1, a2, a3, ⟨rfl, ?_, ?_⟩, a5, a6, a7, a8⟩
        · intro e j hj
          have hj26 := ix26 hm hj
          show va_cpy (z.1 11) (z.1 13) 0 (26 * 1) 26 j = nI (if 26 ≤ j then S.2.1 1 (j - 26) else S.2.1 3 j)
          rw [pk_cpy_out (by omega), if_neg (by omega)]
          exact hC4.2.1 e j hj
        · intro e j hj
          have hj26 := ix26 hm hj
          show va_cpy (z.1 11) (z.1 13) 0 (26 * 1) 26 (26 + j) = nI (if 26 ≤ 26 + j then S.2.1 1 (26 + j - 26) else S.2.1 3 (26 + j))
          rw [pk_cpy_in (by omega) (by omega), if_pos (by omega), show 26 + j - 26 = j by omega, ← a2.2.2.2.2 j hj]
          exact congrArg (z.1 11) (by omega)
      · obtain ⟨a1, a2, a3, a4, a5⟩ := hG.up
        refine ⟨a1, a2, a3, ⟨a4.1, Nat.le_refl 1, ?_, ?_⟩, a5⟩
        · intro e
          refine ⟨fun q hq => ?_, ?_⟩
          · have := (a4.2.2.1 e).1 q hq
            show 1 ≤ (if 26 ≤ 5 * q then S.2.1 1 (5 * q - 26) else S.2.1 3 (5 * q)) ∧ (if 26 ≤ 5 * q then S.2.1 1 (5 * q - 26) else S.2.1 3 (5 * q)) ≤ 1000 + 72 * (k + 1) ∧ (if 26 ≤ 5 * q + 1 then S.2.1 1 (5 * q + 1 - 26) else S.2.1 3 (5 * q + 1)) ≤ 9 ∧ (if 26 ≤ 5 * q + 2 then S.2.1 1 (5 * q + 2 - 26) else S.2.1 3 (5 * q + 2)) ≤ 9 ∧ (if 26 ≤ 5 * q + 3 then S.2.1 1 (5 * q + 3 - 26) else S.2.1 3 (5 * q + 3)) ≤ 90 ∧ (if 26 ≤ 5 * q + 4 then S.2.1 1 (5 * q + 4 - 26) else S.2.1 3 (5 * q + 4)) ≤ k + 1
            have hq : q < S.1 1 := hq
            rw [if_neg (by omega), if_neg (by omega), if_neg (by omega), if_neg (by omega), if_neg (by omega)]
            exact this
          · show (if 26 ≤ 25 then S.2.1 1 (25 - 26) else S.2.1 3 25) ≤ k + 1
            rw [if_neg (by decide)]
            exact (a4.2.2.1 e).2
        · intro e
          refine ⟨fun q hq => ?_, ?_⟩
          · have := a2.2.2.2.2.1 q hq
            have hq : q < S.1 1 := hq
            have key : ∀ r, r < 5 → (sT (sS S 10 1) 3 (fun j => if 26 ≤ j then S.2.1 1 (j - 26) else S.2.1 3 j)).2.1 3 (26 + (5 * q + r)) = S.2.1 1 (5 * q + r) := fun r hr => by
              show (if 26 ≤ 26 + (5 * q + r) then S.2.1 1 (26 + (5 * q + r) - 26) else S.2.1 3 (26 + (5 * q + r))) = _
              rw [if_pos (by omega), show 26 + (5 * q + r) - 26 = 5 * q + r by omega]
            have k0 := key 0 (by decide)
            rw [Nat.add_zero] at k0
            show 1 ≤ (sT (sS S 10 1) 3 (fun j => if 26 ≤ j then S.2.1 1 (j - 26) else S.2.1 3 j)).2.1 3 (26 + 5 * q) ∧ (sT (sS S 10 1) 3 (fun j => if 26 ≤ j then S.2.1 1 (j - 26) else S.2.1 3 j)).2.1 3 (26 + 5 * q) ≤ 1000 + 72 * (k + 1) ∧ (sT (sS S 10 1) 3 (fun j => if 26 ≤ j then S.2.1 1 (j - 26) else S.2.1 3 j)).2.1 3 (26 + (5 * q + 1)) ≤ 9 ∧ (sT (sS S 10 1) 3 (fun j => if 26 ≤ j then S.2.1 1 (j - 26) else S.2.1 3 j)).2.1 3 (26 + (5 * q + 2)) ≤ 9 ∧ (sT (sS S 10 1) 3 (fun j => if 26 ≤ j then S.2.1 1 (j - 26) else S.2.1 3 j)).2.1 3 (26 + (5 * q + 3)) ≤ 90 ∧ (sT (sS S 10 1) 3 (fun j => if 26 ≤ j then S.2.1 1 (j - 26) else S.2.1 3 j)).2.1 3 (26 + (5 * q + 4)) ≤ k + 1
            rw [k0, key 1 (by decide), key 2 (by decide), key 3 (by decide), key 4 (by decide)]
            exact this
          · show (if 26 ≤ 26 + 25 then S.2.1 1 (26 + 25 - 26) else S.2.1 3 (26 + 25)) ≤ k + 1
            rw [if_pos (by decide)]
            exact a2.2.2.2.2.2
      · generalize hK : (fun (x2_9 : Int32) (z_8 : Mem) => rg (25 : Int32) 26 (lt ((z_8.1 27 (25 : Int32).toNatClampNeg) : Int32) (fun a_11 => (some (a_11, z_8) : Option (Int32 × Mem))))) = K
        obtain ⟨y1, g1, g2, g3, g4, g5⟩ := copy_loop (fX9_keep_L21 K (nI 1)) K 26 27 42 (26 * 1) 0 (fun x => True) (by decide)
          (fun n i x hp hi => by
            rw [fX9_keep_L21_s, if_neg (ge26 hi), rgs hi (by decide), lts, m26, rgs (by omega) (by decide), lts, lts, clamp (by omega), clamp (by omega), show nI i + (1 : Int32) = nI (i + 1) from nI_1 i, Nat.zero_add])
          (fun n x hp => by rw [fX9_keep_L21_s, if_pos (show (26 : Int32) ≤ nI 26 by decide)])
          (fun x i v hp => trivial) 26 0 (sI y 41 1 1) FU rfl fu26 trivial
        have oy : ∀ q, q ≠ 41 → q ≠ 42 → y1.1 q = y.1 q := fun q a b => by
          rw [(g5 q (by simp [b])).1, sI1, if_neg a]
        have o41 : ∀ q, y1.1 41 q = if q = 1 then 1 else y.1 41 q := fun q => by
          rw [(g5 41 (by decide)).1, sI1, if_pos rfl, up1]
        refine ⟨y1, ?_, ?_, (AgC.sI y _ _ (by decide)).tr (g5.C (by decide))⟩
        · unfold fX9_keep
          have g1' : fX9_keep_L21 K (nI 1) FU 0 (sI y 41 1 1) = K (nI 26) y1 := g1
          rw [in9i (nI 1) 0 1 rfl rfl, cls, if_pos h, if_neg one0, rgs (by decide) (by decide), lts, clamp (by decide), show vp_nar .boolean (1 : Int32) = 1 from rfl, hK, g1', ← hK]
          show rg (25 : Int32) 26 _ = _
          rw [rd25, lts, cl25, oy 27 (by decide) (by decide), hR.2.1.2.2.2.2 25 (Or.inr rfl)]
        · obtain ⟨a1, a2, a3, a4, a5, a6, a7, a8⟩ := id hR
          have e25 := oy 25 (by decide) (by decide)
          have g4 : ∀ q, (q < 26 * 1 + 0 ∨ 26 * 1 + 26 ≤ q) → y1.1 42 q = y.1 42 q := fun q hq => g4 q hq
          have g3 : ∀ j, 0 ≤ j → j < 26 → y1.1 42 (26 * 1 + j) = y.1 27 (0 + j) := fun j p q => g3 j p q
          refine ⟨a1.go (by rw [e25]) (oy 28 (by decide) (by decide)), a2.go (by rw [e25]) (by rw [e25]) (by rw [e25]) (by rw [e25]) (oy 27 (by decide) (by decide)), a3.go (by rw [e25]) (by rw [e25]) (oy 29 (by decide) (by decide)), ⟨?_, ?_, ?_, ?_⟩, a5.go (by rw [e25]) (oy 30 (by decide) (by decide)) (oy 31 (by decide) (by decide)) (oy 32 (by decide) (by decide)), a6.go (by rw [e25]) (oy 33 (by decide) (by decide)) (oy 34 (by decide) (by decide)), a7.go (by rw [e25]) (oy 37 (by decide) (by decide)), a8.go (by rw [(g5 25 (by decide)).2]; rfl)⟩
          · rw [o41]; exact a4.1
          · rw [o41]; rfl
          · intro e j hj
            have hj26 := ix26 hm hj
            show y1.1 42 j = nI (if 26 ≤ j then S.2.1 1 (j - 26) else S.2.1 3 j)
            rw [g4 _ (by omega), if_neg (by omega)]
            exact hR.2.2.2.1.2.2.1 e j hj
          · intro e j hj
            have hj26 := ix26 hm hj
            have g := g3 j (Nat.zero_le j) hj26
            rw [Nat.mul_one, Nat.zero_add] at g
            show y1.1 42 (26 + j) = nI (if 26 ≤ 26 + j then S.2.1 1 (26 + j - 26) else S.2.1 3 (26 + j))
            rw [g, if_pos (by omega), show 26 + j - 26 = j by omega]
            exact hR.2.1.2.2.2.2 j hj
  · refine same hG hC (-1) ?_ fun y hR => ?_
    · unfold fX8_keep
      rw [isSlot8, cls, if_neg h, if_pos rfl]
    · unfold fX9_keep
      rw [in9i p 0 1 rfl rfl, cls, if_neg h, if_pos rfl]
theorem ok_again (p : Int32) : Ok (fX8_again p) (fX9_again p) := by
  refine ok_of fun k S z hk hG hC => ?_
  have hm := hG.2.1.1
  have hgs := hG.2.2.2.1
  have hcb := hG.2.1.2.2.2.2
  by_cases h : 0 ≤ p.toInt ∧ p.toInt ≤ 1
  · obtain ⟨s, -, hs1, rfl⟩ := rng_of (lo := 0) (hi := 1) h
    have hC4 := hC.2.2.2.1
    rcases (show s = 0 ∨ s = 1 by omega) with rfl | rfl
    · have hb : ((nI (S.1 9 + 2 * S.1 10) >>> (nI 0 &&& 31)) &&& (1 : Int32)) = nI (S.1 9) := bit_0 _ _ hgs.1 hgs.2.1
      by_cases e : S.1 9 = 1
      · have h1 : nI (S.1 9) = (1 : Int32) := by rw [e]; rfl
        have cells : holds (va_cpy (z.1 13) (z.1 11) (26 * 0) 0 26) (S.1 1) (S.2.1 3) := by
          intro j hj
          have hj26 := ix26 hm hj
          rw [pk_cpy_in (by omega) (by omega), Nat.sub_zero]
          rw [Nat.mul_zero, Nat.zero_add]
          exact hC4.2.1 e j hj
        refine ⟨nI (S.2.1 3 25), sI (sR z 11 (va_cpy (z.1 13) (z.1 11) (26 * 0) 0 26)) 3 2 0, sT (sS S 5 0) 1 (S.2.1 3), ?_, ?_, (AgM.sR z _ (by decide)).tr (AgM.sI _ _ _ (by decide)), ?_, fun y hR => ?_⟩
        · unfold fX8_again fX5_bring fX5_holds fX0_clear
          have hd : (sI (sR z 11 (va_cpy (z.1 13) (z.1 11) (26 * 0) 0 26)) 3 2 0).1 11 25 = nI (S.2.1 3 25) := cells 25 (Or.inr rfl)
          rw [isSlot8, cls, if_pos h, if_neg one0, isSlot8, cls, if_pos h, if_neg one0, hC4.1, hb, if_pos h1, cls, if_neg one0, isSlot8, cls, if_pos h, if_neg one0, hC4.1, hb, if_pos h1, cls, if_neg one0, copyFrom13 (by decide), cls, cls, lts, cls, today8 hd, cls]
        · obtain ⟨a1, a2, a3, a4, a5, a6, a7, a8⟩ := hC
          obtain ⟨f, hf16, b1, b2, b3⟩ := a3
          exact ⟨a1, ⟨a2.1, a2.2.1, a2.2.2.1, a2.2.2.2.1, cells⟩, ⟨f, hf16, b1, rfl, fun i hi => absurd hi (by simp [sT, sS])⟩, a4, a5, a6, a7, a8⟩
        · obtain ⟨a1, a2, a3, a4, a5⟩ := hG.up
          exact ⟨a1, ⟨a2.1, a2.2.1, a2.2.2.1, a2.2.2.2.1, a4.2.2.1 e⟩, ⟨by simp [sT, sS], fun i hi => absurd hi (by simp [sT, sS])⟩, a4, a5⟩
        · generalize hK : (fun (x2_10 : Int32) (z_9 : Mem) => lt (sI z_9 25 14 (0 : Int32)) (fun z_11 => rg (25 : Int32) 26 (lt ((z_11.1 27 (25 : Int32).toNatClampNeg) : Int32) (fun a_13 => (some (a_13, z_11) : Option (Int32 × Mem)))))) = K
          obtain ⟨y1, g1, g2, g3, g4, g5⟩ := copy_loop (fX9_again_L26 K (nI 0)) K 26 42 27 0 (26 * 0) (fun x => True) (by decide)
            (fun n i x hp hi => by
              rw [fX9_again_L26_s, if_neg (ge26 hi), lts, m26, rgs (by omega) (by decide), lts, rgs hi (by decide), lts, lts, clamp (by omega), clamp (by omega), show nI i + (1 : Int32) = nI (i + 1) from nI_1 i, Nat.zero_add])
            (fun n x hp => by rw [fX9_again_L26_s, if_pos (show (26 : Int32) ≤ nI 26 by decide)])
            (fun x i v hp => trivial) 26 0 y FU rfl fu26 trivial
          have cl27 : holds (y1.1 27) (S.1 1) (S.2.1 3) := by
            intro j hj
            have g := g3 j (Nat.zero_le j) (ix26 hm hj)
            rw [Nat.zero_add] at g
            rw [g]
            exact hR.2.2.2.1.2.2.1 e j hj
          refine ⟨sI y1 25 14 0, ?_, ?_, (g5.C (by decide)).tr (AgC.sI _ _ _ (by decide))⟩
          · unfold fX9_again
            have g1' : fX9_again_L26 K (nI 0) FU 0 y = K (nI 26) y1 := g1
            have e41 : ¬ y.1 41 0 = 0 := by rw [hR.2.2.2.1.1, e]; decide
            rw [in9i (nI 0) 0 1 rfl rfl, cls, if_pos h, if_neg one0, rgs (by decide) (by decide), lts, clamp (by decide), if_neg e41, hK, g1', ← hK]
            show lt (sI y1 25 14 0) _ = _
            rw [lts, rd25, lts, cl25]
            show some (y1.1 27 25, _) = _
            rw [cl27 25 (Or.inr rfl)]
          · have oy : ∀ q, q ≠ 25 → q ≠ 27 → (sI y1 25 14 0).1 q = y.1 q := fun q a b => by rw [sI1, if_neg a, (g5 q (by simp [b])).1]
            have k2 : ∀ q, q ≠ 14 → (sI y1 25 14 0).1 25 q = y.1 25 q := fun q a => by rw [sI1, if_pos rfl, up1, if_neg a, (g5 25 (by decide)).1]
            obtain ⟨a1, a2, a3, a4, a5, a6, a7, a8⟩ := id hR
            obtain ⟨f', hf', b1, b2, b3⟩ := a3
            refine ⟨a1.go (k2 11 (by decide)) (oy 28 (by decide) (by decide)), ⟨?_, ?_, ?_, ?_, cl27⟩, ⟨f', hf', ?_, rfl, fun i hi => absurd hi (by simp [sT, sS])⟩, a4.go (oy 41 (by decide) (by decide)) (oy 42 (by decide) (by decide)), a5.go (k2 17 (by decide)) (oy 30 (by decide) (by decide)) (oy 31 (by decide) (by decide)) (oy 32 (by decide) (by decide)), a6.go (k2 21 (by decide)) (oy 33 (by decide) (by decide)) (oy 34 (by decide) (by decide)), a7.go (k2 26 (by decide)) (oy 37 (by decide) (by decide)), a8.go (g5 25 (by decide)).2⟩
            · rw [k2 6 (by decide)]; exact a2.1
            · rw [k2 8 (by decide)]; exact a2.2.1
            · rw [k2 9 (by decide)]; exact a2.2.2.1
            · rw [k2 7 (by decide)]; exact a2.2.2.2.1
            · rw [k2 15 (by decide)]; exact b1
      · have e0 : S.1 9 = 0 := by have := hgs.1; omega
        refine same hG hC (-3) ?_ fun y hR => ?_
        · unfold fX8_again fX5_holds
          rw [isSlot8, cls, if_pos h, if_neg one0, isSlot8, cls, if_pos h, if_neg one0, hC4.1, hb, e0, if_neg (show ¬ nI 0 = (1 : Int32) by decide), cls, if_pos rfl]
        · unfold fX9_again
          rw [in9i (nI 0) 0 1 rfl rfl, cls, if_pos h, if_neg one0, rgs (by decide) (by decide), lts, clamp (by decide), hR.2.2.2.1.1, e0, if_pos (show nI 0 = (0 : Int32) from rfl)]
    · have hb : ((nI (S.1 9 + 2 * S.1 10) >>> (nI 1 &&& 31)) &&& (1 : Int32)) = nI (S.1 10) := bit_1 _ _ hgs.1 hgs.2.1
      by_cases e : S.1 10 = 1
      · have h1 : nI (S.1 10) = (1 : Int32) := by rw [e]; rfl
        have cells : holds (va_cpy (z.1 13) (z.1 11) (26 * 1) 0 26) (S.1 1) (fun j => S.2.1 3 (26 + j)) := by
          intro j hj
          have hj26 := ix26 hm hj
          rw [pk_cpy_in (by omega) (by omega), Nat.sub_zero]
          rw [Nat.mul_one]
          exact hC4.2.2 e j hj
        refine ⟨nI (S.2.1 3 (26 + 25)), sI (sR z 11 (va_cpy (z.1 13) (z.1 11) (26 * 1) 0 26)) 3 2 0, sT (sS S 5 0) 1 (fun j => S.2.1 3 (26 + j)), ?_, ?_, (AgM.sR z _ (by decide)).tr (AgM.sI _ _ _ (by decide)), ?_, fun y hR => ?_⟩
        · unfold fX8_again fX5_bring fX5_holds fX0_clear
          have hd : (sI (sR z 11 (va_cpy (z.1 13) (z.1 11) (26 * 1) 0 26)) 3 2 0).1 11 25 = nI (S.2.1 3 (26 + 25)) := cells 25 (Or.inr rfl)
          rw [isSlot8, cls, if_pos h, if_neg one0, isSlot8, cls, if_pos h, if_neg one0, hC4.1, hb, if_pos h1, cls, if_neg one0, isSlot8, cls, if_pos h, if_neg one0, hC4.1, hb, if_pos h1, cls, if_neg one0, copyFrom13 (by decide), cls, cls, lts, cls, today8 hd, cls]
        · obtain ⟨a1, a2, a3, a4, a5, a6, a7, a8⟩ := hC
          obtain ⟨f, hf16, b1, b2, b3⟩ := a3
          exact ⟨a1, ⟨a2.1, a2.2.1, a2.2.2.1, a2.2.2.2.1, cells⟩, ⟨f, hf16, b1, rfl, fun i hi => absurd hi (by simp [sT, sS])⟩, a4, a5, a6, a7, a8⟩
        · obtain ⟨a1, a2, a3, a4, a5⟩ := hG.up
          exact ⟨a1, ⟨a2.1, a2.2.1, a2.2.2.1, a2.2.2.2.1, a4.2.2.2 e⟩, ⟨by simp [sT, sS], fun i hi => absurd hi (by simp [sT, sS])⟩, a4, a5⟩
        · generalize hK : (fun (x2_10 : Int32) (z_9 : Mem) => lt (sI z_9 25 14 (0 : Int32)) (fun z_11 => rg (25 : Int32) 26 (lt ((z_11.1 27 (25 : Int32).toNatClampNeg) : Int32) (fun a_13 => (some (a_13, z_11) : Option (Int32 × Mem)))))) = K
          obtain ⟨y1, g1, g2, g3, g4, g5⟩ := copy_loop (fX9_again_L26 K (nI 1)) K 26 42 27 0 (26 * 1) (fun x => True) (by decide)
            (fun n i x hp hi => by
              rw [fX9_again_L26_s, if_neg (ge26 hi), lts, m26, rgs (by omega) (by decide), lts, rgs hi (by decide), lts, lts, clamp (by omega), clamp (by omega), show nI i + (1 : Int32) = nI (i + 1) from nI_1 i, Nat.zero_add])
            (fun n x hp => by rw [fX9_again_L26_s, if_pos (show (26 : Int32) ≤ nI 26 by decide)])
            (fun x i v hp => trivial) 26 0 y FU rfl fu26 trivial
          have cl27 : holds (y1.1 27) (S.1 1) (fun j => S.2.1 3 (26 + j)) := by
            intro j hj
            have g := g3 j (Nat.zero_le j) (ix26 hm hj)
            rw [Nat.zero_add, Nat.mul_one] at g
            rw [g]
            exact hR.2.2.2.1.2.2.2 e j hj
          refine ⟨sI y1 25 14 0, ?_, ?_, (g5.C (by decide)).tr (AgC.sI _ _ _ (by decide))⟩
          · unfold fX9_again
            have g1' : fX9_again_L26 K (nI 1) FU 0 y = K (nI 26) y1 := g1
            have e41 : ¬ y.1 41 1 = 0 := by rw [hR.2.2.2.1.2.1, e]; decide
            rw [in9i (nI 1) 0 1 rfl rfl, cls, if_pos h, if_neg one0, rgs (by decide) (by decide), lts, clamp (by decide), if_neg e41, hK, g1', ← hK]
            show lt (sI y1 25 14 0) _ = _
            rw [lts, rd25, lts, cl25]
            show some (y1.1 27 25, _) = _
            rw [cl27 25 (Or.inr rfl)]
          · have oy : ∀ q, q ≠ 25 → q ≠ 27 → (sI y1 25 14 0).1 q = y.1 q := fun q a b => by rw [sI1, if_neg a, (g5 q (by simp [b])).1]
            have k2 : ∀ q, q ≠ 14 → (sI y1 25 14 0).1 25 q = y.1 25 q := fun q a => by rw [sI1, if_pos rfl, up1, if_neg a, (g5 25 (by decide)).1]
            obtain ⟨a1, a2, a3, a4, a5, a6, a7, a8⟩ := id hR
            obtain ⟨f', hf', b1, b2, b3⟩ := a3
            refine ⟨a1.go (k2 11 (by decide)) (oy 28 (by decide) (by decide)), ⟨?_, ?_, ?_, ?_, cl27⟩, ⟨f', hf', ?_, rfl, fun i hi => absurd hi (by simp [sT, sS])⟩, a4.go (oy 41 (by decide) (by decide)) (oy 42 (by decide) (by decide)), a5.go (k2 17 (by decide)) (oy 30 (by decide) (by decide)) (oy 31 (by decide) (by decide)) (oy 32 (by decide) (by decide)), a6.go (k2 21 (by decide)) (oy 33 (by decide) (by decide)) (oy 34 (by decide) (by decide)), a7.go (k2 26 (by decide)) (oy 37 (by decide) (by decide)), a8.go (g5 25 (by decide)).2⟩
            · rw [k2 6 (by decide)]; exact a2.1
            · rw [k2 8 (by decide)]; exact a2.2.1
            · rw [k2 9 (by decide)]; exact a2.2.2.1
            · rw [k2 7 (by decide)]; exact a2.2.2.2.1
            · rw [k2 15 (by decide)]; exact b1
      · have e0 : S.1 10 = 0 := by have := hgs.2.1; omega
        refine same hG hC (-3) ?_ fun y hR => ?_
        · unfold fX8_again fX5_holds
          rw [isSlot8, cls, if_pos h, if_neg one0, isSlot8, cls, if_pos h, if_neg one0, hC4.1, hb, e0, if_neg (show ¬ nI 0 = (1 : Int32) by decide), cls, if_pos rfl]
        · unfold fX9_again
          rw [in9i (nI 1) 0 1 rfl rfl, cls, if_pos h, if_neg one0, rgs (by decide) (by decide), lts, clamp (by decide), hR.2.2.2.1.2.1, e0, if_pos (show nI 0 = (0 : Int32) from rfl)]
  · refine same hG hC (-1) ?_ fun y hR => ?_
    · unfold fX8_again
      rw [isSlot8, cls, if_neg h, if_pos rfl]
    · unfold fX9_again
      rw [in9i p 0 1 rfl rfl, cls, if_neg h, if_pos rfl]
