theorem settle8 {l m : Nat} {b : Nat → Nat} {z : Mem} (hm : m ≤ 5) (e : l = 4 + 6 * m) (h1 : z.1 1 1 = nI l) (h2 : ∀ i, i < l → z.1 10 i = nI (b i)) (hd : ∀ p, p < m → ∀ k, k < 5 → 48 ≤ b (4 + 6 * p + 1 + k)) (d2 : 48 ≤ b 2) (d3 : 48 ≤ b 3) : ∃ y, fX2_settle z = some ((), y) ∧ y.1 2 1 = nI m ∧ y.1 2 2 = nI (b 2 - 48) ∧ y.1 2 3 = nI (b 3 - 48) ∧ (∀ j, j < 26 → y.1 11 j = nI (if j < 5 * m then lc b j else 0)) ∧ Out [2, 11] z y := by
  obtain ⟨z1, a1, a2, a3⟩ := fill11 (fun (x2_3 : Int32) (z_2 : Mem) => some ((), z_2)) 26 0 FU z (by decide) (by unfold FU; decide) (fun i hi => absurd hi (by omega))
  have a1' : fJ7_fill_53178_11 (0 : Int32) z = some ((), z1) := a1
  have t1 : z1.1 1 = z.1 1 := (a3 1 (by decide)).1
  have t2 : z1.1 10 = z.1 10 := (a3 10 (by decide)).1
  obtain ⟨y, y1, y2, y3⟩ := set_L (by omega) hm e hd (fun (x2_19 : Int32) (z_18 : Mem) => some ((), z_18)) m 0 FU (sI (sI (sI z1 2 2 (nI (b 2 - 48))) 2 3 (nI (b 3 - 48))) 2 1 (nI m)) (by omega) (by unfold FU; omega) rfl (show z1.1 1 1 = nI l by rw [t1, h1]) (show ∀ i, i < l → z1.1 10 i = nI (b i) by rw [t2]; exact h2) (fun j hj => by
    show z1.1 11 j = _
    rw [a2 j hj, if_neg (by omega)]
    rfl)
  refine ⟨y, ?_, by rw [(y3 2 (by decide)).1]; rfl, by rw [(y3 2 (by decide)).1]; rfl, by rw [(y3 2 (by decide)).1]; rfl, y2, ((((a3.more (by decide)).tr (Out.sI [2, 11] z1 _ _ (by decide))).tr (Out.sI _ _ _ _ (by decide))).tr (Out.sI _ _ _ _ (by decide))).tr (y3.more (by decide))⟩
  unfold fX2_settle fX1_parts
  have e3 : ∀ v, (sI z1 2 2 v).1 1 1 = nI l := fun v => by show z1.1 1 1 = _; rw [t1, h1]
  have e4 : ∀ v w, (sI (sI z1 2 2 v) 2 3 w).1 1 1 = nI l := fun v w => by show z1.1 1 1 = _; rw [t1, h1]
  have s4 : nI l - (4 : Int32) = nI (l - 4) := pk_sub (b := 4) (by omega)
  have d6 : nI (l - 4) / (6 : Int32) = nI m := by rw [show nI (l - 4) / (6 : Int32) = nI ((l - 4) / 6) from pk_div (d := 6) (by omega) (by decide) (by decide)]; congr 1; omega
  rw [a1', cls, show fX1_figure (2 : Int32) z1 = _ from fig8 (l := l) (p := 2) (b := b) (by omega) (by omega) (by rw [t1, h1]) (by rw [t2]; exact h2 2 (by omega)) d2, cls, lts, show ∀ v, fX1_figure (3 : Int32) (sI z1 2 2 v) = _ from fun v => fig8 (l := l) (p := 3) (b := b) (by omega) (by omega) (e3 v) (show z1.1 10 3 = _ by rw [t2]; exact h2 3 (by omega)) d3, cls, lts, e4, if_pos (show (4 : Int32) ≤ nI l from nI_le (a := 4) (by omega) (by omega)), nzs (by decide), cls, s4, d6, if_neg (show ¬ (5 : Int32) < nI m from nI_nlt (a := 5) (b := m) hm (by decide)), lts, lts]
  exact y1
theorem ok_land : Ok fX8_land fX9_land := by
  refine ok_of fun k S z hk hG hC => ?_
  obtain ⟨f, f1, f2⟩ := ff8 hG.1.1 hG.1.2 hC.1.1 hC.1.2
  by_cases q : flr (S.1 0) f = -9
  · have hl := hG.1.1
    have hb := hG.1.2
    have hw : f = S.1 0 ∧ 4 ≤ S.1 0 ∧ (S.1 0 - 4) % 6 = 0 := by
      unfold flr at q
      by_cases t : f = S.1 0 ∧ 4 ≤ S.1 0 ∧ (S.1 0 - 4) % 6 = 0
      · exact t
      · rw [if_neg t] at q
        have := f1.1
        exact absurd q (ne9 (by omega))
    have hall : ∀ i, i < S.1 0 → may i (S.2.1 0 i) = true := fun i hi => f1.2.1 i (by omega)
    obtain ⟨m, hm⟩ : ∃ m, S.1 0 = 4 + 6 * m := ⟨(S.1 0 - 4) / 6, by omega⟩
    have hm5 : m ≤ 5 := by
      by_cases t : m ≤ 5
      · exact t
      · have t5 := hall (4 + 6 * 5) (by omega)
        exact absurd ((may_p0 5 (by decide) _ (hb _ (by omega))).mp t5).2 (by decide)
    have g1 := (may_1 _ (hb 1 (by omega))).mp (hall 1 (by omega))
    have g2 := (may_2 _ (hb 2 (by omega))).mp (hall 2 (by omega))
    have g3 := (may_3 _ (hb 3 (by omega))).mp (hall 3 (by omega))
    have gp1 : ∀ p, p < m → 1 + 48 ≤ S.2.1 0 (4 + 6 * p + 1) ∧ S.2.1 0 (4 + 6 * p + 1) ≤ 9 + 48 := fun p hp => (may_p1 p (by omega) _ (hb _ (by omega))).mp (hall _ (by omega))
    have gp2 : ∀ p, p < m → 0 + 48 ≤ S.2.1 0 (4 + 6 * p + 1 + 1) ∧ S.2.1 0 (4 + 6 * p + 1 + 1) ≤ 9 + 48 := fun p hp => (may_p2 p (by omega) _ (hb _ (by omega))).mp (hall _ (by omega))
    have gp3 : ∀ p, p < m → 0 + 48 ≤ S.2.1 0 (4 + 6 * p + 1 + 1 + 1) ∧ S.2.1 0 (4 + 6 * p + 1 + 1 + 1) ≤ 9 + 48 := fun p hp => (may_p3 p (by omega) _ (hb _ (by omega))).mp (hall _ (by omega))
    have gp4 : ∀ p, p < m → 0 + 48 ≤ S.2.1 0 (4 + 6 * p + 1 + 1 + 1 + 1) ∧ S.2.1 0 (4 + 6 * p + 1 + 1 + 1 + 1) ≤ 9 + 48 := fun p hp => (may_p4 p (by omega) _ (hb _ (by omega))).mp (hall _ (by omega))
    have gp5 : ∀ p, p < m → 0 + 48 ≤ S.2.1 0 (4 + 6 * p + 1 + 1 + 1 + 1 + 1) ∧ S.2.1 0 (4 + 6 * p + 1 + 1 + 1 + 1 + 1) ≤ 9 + 48 := fun p hp => (may_p5 p (by omega) _ (hb _ (by omega))).mp (hall _ (by omega))
    have hd : ∀ p, p < m → ∀ k, k < 5 → 48 ≤ S.2.1 0 (4 + 6 * p + 1 + k) := by
      intro p hp k hk
      obtain rfl | rfl | rfl | rfl | rfl : k = 0 ∨ k = 1 ∨ k = 2 ∨ k = 3 ∨ k = 4 := by omega
      · have := gp1 p hp; rw [Nat.add_zero]; omega
      · have := gp2 p hp; omega
      · exact (gp3 p hp).1
      · exact (gp4 p hp).1
      · exact (gp5 p hp).1
    have t1 : (sI z 0 8 (nI (S.2.1 0 1 - 48))).1 1 1 = nI (S.1 0) := hC.1.1
    obtain ⟨z1, a1, a2, a3, a4, a5, a6⟩ := settle8 (z := sI z 0 8 (nI (S.2.1 0 1 - 48))) (l := S.1 0) (b := S.2.1 0) hm5 hm hC.1.1 hC.1.2 hd g2.1 g3.1
    refine ⟨nI m, sI (sI z1 3 2 0) 4 1 0, sT (sS (sS (sS (sS (sS (sS (sS S 1 m) 2 (S.2.1 0 2 - 48)) 3 (S.2.1 0 3 - 48)) 4 (S.2.1 0 1 - 48)) 5 0) 9 0) 10 0) 1 (lc (S.2.1 0)), ?_, ?_, ?_, ?_, fun y hR => ?_⟩
    · unfold fX8_land fX0_clear fX5_clear fX2_size_2
      have e1 : (sI (sI z1 3 2 0) 4 1 0).1 2 1 = nI m := a2
      rw [f2, cls, if_pos q, show fX1_figure (1 : Int32) z = _ from fig8 (l := S.1 0) (p := 1) (b := S.2.1 0) hl (by omega) hC.1.1 (hC.1.2 1 (by omega)) (by omega), cls, lts, a1, cls, lts, cls, lts, cls, cls, e1]
    · obtain ⟨h1, h2, h3, h4, h5, h6, h7, h8⟩ := hC
      refine ⟨?_, ?_, ?_, ?_, ?_, ?_, ?_, ?_⟩
      · exact h1.go (z1 := sI (sI z1 3 2 0) 4 1 0) (a6 1 (by decide)).1 (a6 10 (by decide)).1
      · refine ⟨a2, a3, a4, ?_, fun j hj => ?_⟩
        · show z1.1 0 8 = _
          rw [(a6 0 (by decide)).1]
          rfl
        · show z1.1 11 j = nI (lc (S.2.1 0) j)
          have hj : j < 5 * m ∨ j = 25 := hj
          rw [a5 j (by omega)]
          by_cases w : j < 5 * m
          · rw [if_pos w]
          · rw [if_neg w, lc3 _ (by omega)]
      · obtain ⟨g, g1, g2, g3, g4⟩ := h3
        refine ⟨g, g1, ?_, rfl, fun i hi => absurd hi (Nat.not_lt_zero i)⟩
        show z1.1 3 1 = _
        rw [(a6 3 (by decide)).1]
        exact g2
      · exact ⟨rfl, fun t => absurd t (by show ¬ 0 = 1; decide), fun t => absurd t (by show ¬ 0 = 1; decide)⟩
      · exact h5.go (z1 := sI (sI z1 3 2 0) 4 1 0) (a6 5 (by decide)).1 (a6 14 (by decide)).1 (a6 15 (by decide)).1 (a6 16 (by decide)).1
      · exact h6.go (z1 := sI (sI z1 3 2 0) 4 1 0) (a6 6 (by decide)).1 (a6 17 (by decide)).1 (a6 18 (by decide)).1 (a6 19 (by decide)).1 (a6 20 (by decide)).1
      · exact h7.go (z1 := sI (sI z1 3 2 0) 4 1 0) (a6 7 (by decide)).1 (a6 21 (by decide)).1
      · exact h8.go (z1 := sI (sI z1 3 2 0) 4 1 0) (a6 8 (by decide)).2
    · exact ((AgM.sI z _ _ (by decide)).tr (a6.M (by decide))).tr ((AgM.sI z1 _ _ (by decide)).tr (AgM.sI _ _ _ (by decide)))
    · obtain ⟨h1, h2, h3, h4, h5, h6, h7⟩ := hG.up
      refine ⟨h1, ⟨hm5, ?_, ?_, ?_, ⟨fun p hp => ?_, ?_⟩⟩, ⟨Nat.zero_le _, fun i hi => absurd hi (Nat.not_lt_zero i)⟩, ⟨Nat.zero_le _, Nat.zero_le _, fun t => absurd t (by show ¬ 0 = 1; decide), fun t => absurd t (by show ¬ 0 = 1; decide)⟩, h5, h6, h7⟩
      · show S.2.1 0 2 - 48 ≤ 9
        omega
      · show S.2.1 0 3 - 48 ≤ 9
        omega
      · show S.2.1 0 1 - 48 ≤ 2
        omega
      · have hp : p < m := hp
        show 1 ≤ lc (S.2.1 0) (5 * p) ∧ lc (S.2.1 0) (5 * p) ≤ _ ∧ lc (S.2.1 0) (5 * p + 1) ≤ _ ∧ lc (S.2.1 0) (5 * p + 2) ≤ _ ∧ lc (S.2.1 0) (5 * p + 3) ≤ _ ∧ lc (S.2.1 0) (5 * p + 4) ≤ _
        rw [lc0 _ (by omega), lc1 _ (by omega), lc2 _ (by omega), lc3 _ (j := 5 * p + 3) (by omega), lc3 _ (j := 5 * p + 4) (by omega)]
        have := gp1 p hp
        have := gp2 p hp
        have := gp3 p hp
        have := gp4 p hp
        have := gp5 p hp
        omega
      · show lc (S.2.1 0) 25 ≤ k + 1
        rw [lc3 _ (Or.inr rfl)]
        omega
    · obtain ⟨g, y1, b1, b2, b3, b4⟩ := rt9 hG.1.1 hG.1.2 hR.1.1 hR.1.2
      obtain rfl := f1.u b1
      obtain ⟨m', c1, c2, c3, c4, c5', c6, c7⟩ := b4 q
      obtain rfl : m = m' := by omega
      have R1 := b3.R hR
      obtain ⟨y2, d1, d2, d3, d4⟩ := land_L (fun (x1_15 : Int32) (z_14 : Mem) => rg (25 : Int32) 26 (lt (sI z_14 27 (25 : Int32).toNatClampNeg (0 : Int32)) (fun z_17 => lt (sI z_17 25 14 (0 : Int32)) (fun z_18 => rg (0 : Int32) 2 (lt (sI z_18 41 (0 : Int32).toNatClampNeg (vp_nar .boolean (0 : Int32))) (fun z_20 => rg (1 : Int32) 2 (lt (sI z_20 41 (1 : Int32).toNatClampNeg (vp_nar .boolean (0 : Int32))) (fun z_22 => some ((z_22.1 25 6), z_22))))))))) 25 0 FU (sI (sI (sI (sI y1 25 6 (nI m)) 25 7 (nI (S.2.1 0 1 - 48))) 25 8 (nI (S.2.1 0 2 - 48))) 25 9 (nI (S.2.1 0 3 - 48))) (by decide) (by unfold FU; decide)
      have o25 := (d4 25 (by decide)).1
      refine ⟨sI (sI (sI (sI y2 27 25 0) 25 14 0) 41 0 0) 41 1 0, ?_, ?_, ?_⟩
      · unfold fX9_land
        have e2 : ∀ v, (sI y1 25 6 v).1 25 2 = nI (S.2.1 0 1 - 48) := fun v => c4
        have e3 : ∀ v w, (sI (sI y1 25 6 v) 25 7 w).1 25 3 = nI (S.2.1 0 2 - 48) := fun v w => c5'
        have e4 : ∀ v w u, (sI (sI (sI y1 25 6 v) 25 7 w) 25 8 u).1 25 4 = nI (S.2.1 0 3 - 48) := fun v w u => c6
        rw [b2, cls, if_pos q, lts, lts, lts, lts, lts, lts, lts, lts, c3, e2, e3, e4]
        refine d1.trans ?_
        have e6 : (sI (sI (sI (sI y2 27 25 0) 25 14 0) 41 0 0) 41 1 0).1 25 6 = nI m := by
          show y2.1 25 6 = _
          rw [o25]
          rfl
        rw [show ∀ k : Option (Int32 × Mem), rg (25 : Int32) 26 k = k from fun k => rgs (n := 25) (by decide) (by decide) k, lts, lts, show ∀ k : Option (Int32 × Mem), rg (0 : Int32) 2 k = k from fun k => rgs (n := 0) (by decide) (by decide) k, lts, show ∀ k : Option (Int32 × Mem), rg (1 : Int32) 2 k = k from fun k => rgs (n := 1) (by decide) (by decide) k, lts, ← e6]
        rfl
      · obtain ⟨h1, h2, h3, h4, h5, h6, h7, h8⟩ := R1
        refine ⟨?_, ?_, ?_, ?_, ?_, ?_, ?_, ?_⟩
        · refine h1.go (z1 := sI (sI (sI (sI y2 27 25 0) 25 14 0) 41 0 0) 41 1 0) ?_ (d4 28 (by decide)).1
          show y2.1 25 11 = _
          rw [o25]
          rfl
        · refine ⟨?_, ?_, ?_, ?_, fun j hj => ?_⟩
          · show y2.1 25 6 = _
            rw [o25]
            rfl
          · show y2.1 25 8 = _
            rw [o25]
            rfl
          · show y2.1 25 9 = _
            rw [o25]
            rfl
          · show y2.1 25 7 = _
            rw [o25]
            rfl
          · have hj : j < 5 * m ∨ j = 25 := hj
            show upd (y2.1 27) 25 0 j = nI (lc (S.2.1 0) j)
            rw [up1]
            by_cases w : j = 25
            · rw [if_pos w, lc3 _ (Or.inr w)]
              rfl
            · rw [if_neg w, d2 j (by omega) (by omega)]
              by_cases u : 3 ≤ j % 5
              · rw [if_pos u, lc3 _ (Or.inl u)]
                rfl
              · rw [if_neg u]
                exact c7 j (by omega) (by omega)
        · obtain ⟨g, g1, g2, g3, g4⟩ := h3
          refine ⟨g, g1, ?_, rfl, fun i hi => absurd hi (Nat.not_lt_zero i)⟩
          show y2.1 25 15 = _
          rw [o25]
          exact g2
        · exact ⟨rfl, rfl, fun t => absurd t (by show ¬ 0 = 1; decide), fun t => absurd t (by show ¬ 0 = 1; decide)⟩
        · refine h5.go (z1 := sI (sI (sI (sI y2 27 25 0) 25 14 0) 41 0 0) 41 1 0) ?_ (d4 30 (by decide)).1 (d4 31 (by decide)).1 (d4 32 (by decide)).1
          show y2.1 25 17 = _
          rw [o25]
          rfl
        · refine h6.go (z1 := sI (sI (sI (sI y2 27 25 0) 25 14 0) 41 0 0) 41 1 0) ?_ (d4 33 (by decide)).1 (d4 34 (by decide)).1
          show y2.1 25 21 = _
          rw [o25]
          rfl
        · refine h7.go (z1 := sI (sI (sI (sI y2 27 25 0) 25 14 0) 41 0 0) 41 1 0) ?_ (d4 37 (by decide)).1
          show y2.1 25 26 = _
          rw [o25]
          rfl
        · exact h8.go (z1 := sI (sI (sI (sI y2 27 25 0) 25 14 0) 41 0 0) 41 1 0) (d4 25 (by decide)).2
      · exact ((b3.C.tr ((((AgC.sI y1 _ _ (by decide)).tr (AgC.sI _ _ _ (by decide))).tr (AgC.sI _ _ _ (by decide))).tr (AgC.sI _ _ _ (by decide)))).tr (d4.C (by decide))).tr ((((AgC.sI y2 _ _ (by decide)).tr (AgC.sI _ _ _ (by decide))).tr (AgC.sI _ _ _ (by decide))).tr (AgC.sI _ _ _ (by decide)))
  · refine ⟨-3, z, S, ?_, hC, AgM.rf z, hG.up, fun y hR => ?_⟩
    · unfold fX8_land
      rw [f2, cls, if_neg q]
    · obtain ⟨g, y1, g1, g2, g3, g4⟩ := rt9 hG.1.1 hG.1.2 hR.1.1 hR.1.2
      obtain rfl := f1.u g1
      refine ⟨y1, ?_, g3.R hR, g3.C⟩
      unfold fX9_land
      rw [g2, cls, if_neg q]
