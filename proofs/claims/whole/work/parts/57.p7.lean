theorem rem16s (n : Nat) (h : n + 15 < 2 ^ 31) : (nI n + (15 : Int32)) - (nI n + (15 : Int32)) / (16 : Int32) * (16 : Int32) = nI ((n + 15) % 16) := by
  rw [show nI n + (15 : Int32) = nI (n + 15) from nI_add n 15]
  exact rem16 _ h
theorem ok_undo : Ok fX8_undo fX9_undo := by
  refine ok_of fun k S z hk hG hC => ?_
  have hm := hG.2.1.1
  have ha := hG.2.2.1.1
  obtain ⟨f, hf16, h1, h2, h3⟩ := hC.2.2.1
  by_cases e : S.1 5 = 0
  · refine same hG hC (-3) ?_ fun y hR => ?_
    · unfold fX8_undo fX0_length
      rw [cls, h2, e, if_pos (show nI 0 = (0 : Int32) from rfl)]
    · obtain ⟨f', -, r1, r2, -⟩ := hR.2.2.1
      unfold fX9_undo
      rw [r2, e, if_pos (show nI 0 = (0 : Int32) from rfl)]
  · have n0 : ¬ nI (S.1 5) = 0 := nI_ne0 (by omega) (by omega)
    have s1 : nI (S.1 5) - (1 : Int32) = nI (S.1 5 - 1) := pk_sub (b := 1) (by omega)
    refine ⟨nI (S.1 5 - 1), sR (sI z 3 2 (nI (S.1 5 - 1))) 11 (va_cpy (z.1 12) (z.1 11) (26 * ((f + (S.1 5 - 1)) % 16)) 0 26), sT (sS S 5 (S.1 5 - 1)) 1 (fun j => S.2.1 2 (26 * (S.1 5 - 1) + j)), ?_, ?_, (AgM.sI z _ _ (by decide)).tr (AgM.sR _ _ (by decide)), ?_, fun y hR => ?_⟩
    · unfold fX8_undo fX0_length fX0_takeBack
      have e1 : (sI z 3 2 (nI (S.1 5 - 1))).1 3 1 = nI f := h1
      have e2 : (sI z 3 2 (nI (S.1 5 - 1))).1 3 2 = nI (S.1 5 - 1) := rfl
      rw [cls, h2, if_neg n0, if_neg (nI_nle (by omega) (by omega)), lts, s1, lts, nzs n16, e1, e2, nI_add, rem16 _ (by omega), copyFrom12 (by omega), cls, cls, cls]
      rfl
    · obtain ⟨a1, a2, a3, a4, a5, a6, a7, a8⟩ := hC
      refine ⟨a1, ⟨a2.1, a2.2.1, a2.2.2.1, a2.2.2.2.1, fun j hj => ?_⟩, ⟨f, hf16, h1, rfl, fun i hi j hj => h3 i (by have hi : i < S.1 5 - 1 := hi; omega) j hj⟩, a4, a5, a6, a7, a8⟩
      have hj26 := ix26 hm hj
      show va_cpy (z.1 12) (z.1 11) (26 * ((f + (S.1 5 - 1)) % 16)) 0 26 j = _
      rw [pk_cpy_in (by omega) (by omega), Nat.sub_zero]
      exact h3 (S.1 5 - 1) (by omega) j hj
    · have hga := hG.2.2.1.2 (S.1 5 - 1) (by omega)
      obtain ⟨a1, a2, a3, a4, a5⟩ := hG.up
      exact ⟨a1, ⟨a2.1, a2.2.1, a2.2.2.1, a2.2.2.2.1, hga.up⟩, ⟨by show S.1 5 - 1 ≤ 16; omega, fun i hi => a3.2 i (by have hi : i < S.1 5 - 1 := hi; omega)⟩, a4, a5⟩
    · obtain ⟨f', hf', r1, r2, r3⟩ := hR.2.2.1
      generalize hK : (fun (x1_9 : Int32) (z_8 : Mem) => (some ((z_8.1 25 14), z_8) : Option (Int32 × Mem))) = K
      obtain ⟨y1, g1, g2, g3, g4, g5⟩ := copy_loop (fX9_undo_L36 K) K 26 29 27 0 (26 * ((f' + 15) % 16)) (fun x => x.1 25 15 = nI ((f' + 15) % 16)) (by decide)
        (fun n i x hp hi => by
          rw [fX9_undo_L36_s, if_neg (ge26 hi), lts, hp, m26, rgs (by omega) (by decide), lts, rgs hi (by decide), lts, lts, clamp (by omega), clamp (by omega), show nI i + (1 : Int32) = nI (i + 1) from nI_1 i, Nat.zero_add])
        (fun n x hp => by rw [fX9_undo_L36_s, if_pos (show (26 : Int32) ≤ nI 26 by decide)])
        (fun x i v hp => hp) 26 0 (sI (sI y 25 14 (nI (S.1 5 - 1))) 25 15 (nI ((f' + 15) % 16))) FU rfl fu26 rfl
      have o25 := (g5 25 (by decide)).1
      refine ⟨y1, ?_, ?_, ?_⟩
      · unfold fX9_undo
        have e1 : (sI y 25 14 (nI (S.1 5 - 1))).1 25 15 = nI f' := r1
        have g1' : fX9_undo_L36 K FU 0 (sI (sI y 25 14 (nI (S.1 5 - 1))) 25 15 (nI ((f' + 15) % 16))) = K (nI 26) y1 := g1
        rw [r2, if_neg n0, lts, s1, lts, nzs n16, e1, rem16s _ (by omega), lts, lts, hK, g1', ← hK]
        show some (y1.1 25 14, y1) = _
        rw [o25]
        rfl
      · have k2 : ∀ q, q ≠ 14 → q ≠ 15 → y1.1 25 q = y.1 25 q := fun q a b => by
          rw [o25]
          show upd (upd (y.1 25) 14 _) 15 _ q = _
          rw [up1, if_neg b, up1, if_neg a]
        have oy : ∀ q, q ≠ 25 → q ≠ 27 → y1.1 q = y.1 q := fun q a b => by
          rw [(g5 q (by simp [b])).1, sI1, if_neg a, sI1, if_neg a]
        obtain ⟨a1, a2, a3, a4, a5, a6, a7, a8⟩ := hR
        refine ⟨a1.go (k2 11 (by decide) (by decide)) (oy 28 (by decide) (by decide)), ⟨?_, ?_, ?_, ?_, fun j hj => ?_⟩, ⟨(f' + 15) % 16, by omega, by rw [o25]; rfl, by rw [o25]; rfl, fun i hi j hj => ?_⟩, a4.go (oy 41 (by decide) (by decide)) (oy 42 (by decide) (by decide)), a5.go (k2 17 (by decide) (by decide)) (oy 30 (by decide) (by decide)) (oy 31 (by decide) (by decide)) (oy 32 (by decide) (by decide)), a6.go (k2 21 (by decide) (by decide)) (oy 33 (by decide) (by decide)) (oy 34 (by decide) (by decide)), a7.go (k2 26 (by decide) (by decide)) (oy 37 (by decide) (by decide)), a8.go (by rw [(g5 25 (by decide)).2]; rfl)⟩
        · rw [k2 6 (by decide) (by decide)]; exact a2.1
        · rw [k2 8 (by decide) (by decide)]; exact a2.2.1
        · rw [k2 9 (by decide) (by decide)]; exact a2.2.2.1
        · rw [k2 7 (by decide) (by decide)]; exact a2.2.2.2.1
        · have hj26 := ix26 hm hj
          have g := g3 j (Nat.zero_le j) hj26
          rw [Nat.zero_add] at g
          rw [g]
          show y.1 29 _ = nI (S.2.1 2 (26 * (S.1 5 - 1) + j))
          rw [← r3 (S.1 5 - 1) (by omega) j hj]
          exact congrArg (y.1 29) (by omega)
        · have hi : i < S.1 5 - 1 := hi
          rw [oy 29 (by decide) (by decide)]
          show y.1 29 (26 * (((f' + 15) % 16 + 16 - (S.1 5 - 1) + i) % 16) + j) = _
          have hj26 := ix26 hm hj
          show _ = nI (S.2.1 2 (26 * i + j))
          rw [← r3 i (by omega) j hj]
          exact congrArg (y.1 29) (by omega)
      · exact ((AgC.sI y _ _ (by decide)).tr (AgC.sI _ _ _ (by decide))).tr (g5.C (by decide))
