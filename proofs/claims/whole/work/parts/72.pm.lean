theorem fill11 (K : Int32 → Mem → Option (Unit × Mem)) : ∀ (d j n : Nat) (z : Mem), j + d = 26 → d < n → (∀ i, i < j → z.1 11 i = 0) → ∃ y, fJ7_fill_53178_11_L5 K (0 : Int32) n (nI j) z = K (nI 26) y ∧ (∀ i, i < 26 → y.1 11 i = 0) ∧ Out [11] z y := by
  intro d
  induction d with
  | zero =>
    intro j n z h1 h2 h3
    obtain ⟨n, rfl⟩ : ∃ k, n = k + 1 := ⟨n - 1, by omega⟩
    obtain rfl : j = 26 := by omega
    exact ⟨z, by rw [fJ7_fill_53178_11_L5_s, if_pos (show (26 : Int32) ≤ nI 26 by decide)], h3, Out.rf _ z⟩
  | succ d ih =>
    intro j n z h1 h2 h3
    obtain ⟨n, rfl⟩ : ∃ k, n = k + 1 := ⟨n - 1, by omega⟩
    obtain ⟨y, y1, y2, y3⟩ := ih (j + 1) n (sI z 11 j 0) (by omega) (by omega) (fun i hi => by
      show upd (z.1 11) j 0 i = 0
      rw [up1]
      by_cases e : i = j
      · rw [if_pos e]
      · rw [if_neg e]; exact h3 i (by omega))
    refine ⟨y, ?_, y2, (Out.sI [11] z _ _ (by decide)).tr y3⟩
    rw [fJ7_fill_53178_11_L5_s, if_neg (show ¬ (26 : Int32) ≤ nI j from nI_ge (b := 26) (by omega) (by decide)), rgs (by omega) (by decide), lts, lts, clamp (by omega), show nI j + (1 : Int32) = nI (j + 1) from nI_1 j, y1]
theorem fig8 {l p : Nat} {b : Nat → Nat} {z : Mem} (hl : l ≤ 48) (hp : p < l) (h1 : z.1 1 1 = nI l) (h2 : z.1 10 p = nI (b p)) (h3 : 48 ≤ b p) : fX1_figure (nI p) z = some (nI (b p - 48), z) := by
  unfold fX1_figure
  rw [if_neg (nI_pos (by omega)), h1, if_pos (nI_lt hp (by omega)), rgs (by omega) (by decide), lts, clamp (by omega), h2, show nI (b p) - (48 : Int32) = nI (b p - 48) from pk_sub (b := 48) h3]
theorem pfig8 {l p k : Nat} {b : Nat → Nat} {z : Mem} (hl : l ≤ 48) (hp : 4 + 6 * p + 1 + k < l) (h1 : z.1 1 1 = nI l) (h2 : z.1 10 (4 + 6 * p + 1 + k) = nI (b (4 + 6 * p + 1 + k))) (h3 : 48 ≤ b (4 + 6 * p + 1 + k)) : fX1_partFigure (nI p) (nI k) z = some (nI (b (4 + 6 * p + 1 + k) - 48), z) := by
  unfold fX1_partFigure
  rw [show (6 : Int32) * nI p = nI (6 * p) from mlt 6 p rfl, show (4 : Int32) + nI (6 * p) = nI (4 + 6 * p) from nI_add 4 _, show nI (4 + 6 * p) + (1 : Int32) = nI (4 + 6 * p + 1) from nI_1 _, nI_add, fig8 hl hp h1 h2 h3, cls]
theorem set_L {l m : Nat} {b : Nat → Nat} (hl : l ≤ 48) (hm : m ≤ 5) (e : l = 4 + 6 * m) (hd : ∀ p, p < m → ∀ k, k < 5 → 48 ≤ b (4 + 6 * p + 1 + k)) (K : Int32 → Mem → Option (Unit × Mem)) : ∀ (d p n : Nat) (z : Mem), p + d = m → d < n → z.1 2 1 = nI m → z.1 1 1 = nI l → (∀ i, i < l → z.1 10 i = nI (b i)) → (∀ j, j < 26 → z.1 11 j = nI (if j < 5 * p then lc b j else 0)) → ∃ y, fX2_settle_L40 K n (nI p) z = K (nI m) y ∧ (∀ j, j < 26 → y.1 11 j = nI (if j < 5 * m then lc b j else 0)) ∧ Out [11] z y := by
  intro d
  induction d with
  | zero =>
    intro p n z h1 h2 h3 h4 h5 h6
    obtain ⟨n, rfl⟩ : ∃ k, n = k + 1 := ⟨n - 1, by omega⟩
    obtain rfl : p = m := by omega
    exact ⟨z, by rw [fX2_settle_L40_s, h3, if_pos (nI_le (Nat.le_refl _) (by omega))], h6, Out.rf _ z⟩
  | succ d ih =>
    intro p n z h1 h2 h3 h4 h5 h6
    obtain ⟨n, rfl⟩ : ∃ k, n = k + 1 := ⟨n - 1, by omega⟩
    have hp : p < m := by omega
    have pf : ∀ (k : Nat), k < 5 → ∀ w : Mem, w.1 1 = z.1 1 → w.1 10 = z.1 10 → fX1_partFigure (nI p) (nI k) w = some (nI (b (4 + 6 * p + 1 + k) - 48), w) := fun k hk w e1 e2 => pfig8 hl (by omega) (by rw [e1, h4]) (by rw [e2]; exact h5 _ (by omega)) (hd p hp k hk)
    have z0 : ∀ v, (0 : Int32) + nI v = nI v := fun v => by rw [show (0 : Int32) = nI 0 from rfl, nI_add, Nat.zero_add]
    have q0 : z.1 11 (5 * p + 0) = 0 := by rw [h6 _ (by omega), if_neg (by omega)]; rfl
    have q1 : z.1 11 (5 * p + 1) = 0 := by rw [h6 _ (by omega), if_neg (by omega)]; rfl
    have q2 : z.1 11 (5 * p + 2) = 0 := by rw [h6 _ (by omega), if_neg (by omega)]; rfl
    let v0 := 100 * (b (4 + 6 * p + 1 + 0) - 48) + 10 * (b (4 + 6 * p + 1 + 1) - 48) + (b (4 + 6 * p + 1 + 2) - 48)
    let v1 := b (4 + 6 * p + 1 + 3) - 48
    let v2 := b (4 + 6 * p + 1 + 4) - 48
    have w1 : (sI z 11 (5 * p + 0) (nI v0)).1 11 (5 * p + 1) = 0 := by
      show upd (z.1 11) (5 * p + 0) _ (5 * p + 1) = 0
      rw [up1, if_neg (by omega), q1]
    have w2 : (sI (sI z 11 (5 * p + 0) (nI v0)) 11 (5 * p + 1) (nI v1)).1 11 (5 * p + 2) = 0 := by
      show upd (upd (z.1 11) (5 * p + 0) _) (5 * p + 1) _ (5 * p + 2) = 0
      rw [up1, if_neg (by omega), up1, if_neg (by omega), q2]
    obtain ⟨y, y1, y2, y3⟩ := ih (p + 1) n (sI (sI (sI z 11 (5 * p + 0) (nI v0)) 11 (5 * p + 1) (nI v1)) 11 (5 * p + 2) (nI v2)) (by omega) (by omega) h3 h4 h5 (fun j hj => by
      show upd (upd (upd (z.1 11) (5 * p + 0) (nI v0)) (5 * p + 1) (nI v1)) (5 * p + 2) (nI v2) j = _
      rw [up1, up1, up1]
      by_cases j2 : j = 5 * p + 2
      · rw [if_pos j2, if_pos (by omega), j2, lc2 b (by omega)]
      · rw [if_neg j2]
        by_cases j1 : j = 5 * p + 1
        · rw [if_pos j1, if_pos (by omega), j1, lc1 b (by omega)]
        · rw [if_neg j1]
          by_cases j0 : j = 5 * p + 0
          · rw [if_pos j0, if_pos (by omega), j0, Nat.add_zero, lc0 b (by omega)]
          · rw [if_neg j0, h6 j hj]
            by_cases g : j < 5 * p
            · rw [if_pos g, if_pos (by omega)]
            · rw [if_neg g]
              by_cases g' : j < 5 * (p + 1)
              · rw [if_pos g', lc3 b (by omega)]
              · rw [if_neg g'])
    refine ⟨y, ?_, y2, (((Out.sI [11] z _ _ (by decide)).tr (Out.sI _ _ _ _ (by decide))).tr (Out.sI _ _ _ _ (by decide))).tr y3⟩
    rw [fX2_settle_L40_s, h3, if_neg (nI_ge hp (by omega)), show fX1_partFigure (nI p) (0 : Int32) z = _ from pf 0 (by decide) z rfl rfl, cls, show fX1_partFigure (nI p) (1 : Int32) z = _ from pf 1 (by decide) z rfl rfl, cls, show fX1_partFigure (nI p) (2 : Int32) z = _ from pf 2 (by decide) z rfl rfl, cls, show ∀ v, (100 : Int32) * nI v = nI (100 * v) from fun v => mlt 100 v rfl, k10, nI_add, nI_add,
      show ∀ v, fX2_add_2 (nI p) (0 : Int32) v z = _ from fun v => add2 (c := 0) (by omega) v z, cls, q0, z0,
      show fX1_partFigure (nI p) (3 : Int32) (sI z 11 (5 * p + 0) (nI v0)) = _ from pf 3 (by decide) _ rfl rfl, cls,
      show ∀ v, fX2_add_2 (nI p) (1 : Int32) v (sI z 11 (5 * p + 0) (nI v0)) = _ from fun v => add2 (c := 1) (by omega) v _, cls, w1, z0,
      show fX1_partFigure (nI p) (4 : Int32) (sI (sI z 11 (5 * p + 0) (nI v0)) 11 (5 * p + 1) (nI v1)) = _ from pf 4 (by decide) _ rfl rfl, cls,
      show ∀ v, fX2_add_2 (nI p) (2 : Int32) v (sI (sI z 11 (5 * p + 0) (nI v0)) 11 (5 * p + 1) (nI v1)) = _ from fun v => add2 (c := 2) (by omega) v _, cls, w2, z0, lts, show nI p + (1 : Int32) = nI (p + 1) from nI_1 p]
    exact y1
theorem land_L (K : Int32 → Mem → Option (Int32 × Mem)) : ∀ (d j n : Nat) (z : Mem), j + d = 25 → d < n → ∃ y, fX9_land_L46 K n (nI j) z = K (nI 25) y ∧ (∀ i, j ≤ i → i < 25 → y.1 27 i = if 3 ≤ i % 5 then 0 else z.1 26 i) ∧ (∀ i, i < j → y.1 27 i = z.1 27 i) ∧ Out [27] z y := by
  intro d
  induction d with
  | zero =>
    intro j n z h1 h2
    obtain ⟨n, rfl⟩ : ∃ k, n = k + 1 := ⟨n - 1, by omega⟩
    obtain rfl : j = 25 := by omega
    exact ⟨z, by rw [fX9_land_L46_s, if_pos (show (25 : Int32) ≤ nI 25 by decide)], fun i h1 h2 => absurd h1 (by omega), fun i _ => rfl, Out.rf _ z⟩
  | succ d ih =>
    intro j n z h1 h2
    obtain ⟨n, rfl⟩ : ∃ k, n = k + 1 := ⟨n - 1, by omega⟩
    have r5 : nI j - nI j / (5 : Int32) * (5 : Int32) = nI (j % 5) := pk_rem (d := 5) (by omega) (by decide) (by decide)
    have i3 : (3 : Int32) ≤ nI (j % 5) ↔ 3 ≤ j % 5 := nI_leI (a := 3) (by decide) (by omega)
    obtain ⟨y, y1, y2, y3, y4⟩ := ih (j + 1) n (sI z 27 j (if 3 ≤ j % 5 then 0 else z.1 26 j)) (by omega) (by omega)
    refine ⟨y, ?_, fun i hi hi2 => ?_, fun i hi => ?_, (Out.sI [27] z _ _ (by decide)).tr y4⟩
    · rw [fX9_land_L46_s, if_neg (show ¬ (25 : Int32) ≤ nI j from nI_ge (b := 25) (by omega) (by decide)), nzs (by decide), r5, ← y1]
      by_cases q : 3 ≤ j % 5
      · rw [if_pos (i3.mpr q), rgs (by omega) (by decide), lts, lts, clamp (by omega), show nI j + (1 : Int32) = nI (j + 1) from nI_1 j, if_pos q]
      · rw [if_neg (fun t => q (i3.mp t)), rgs (by omega) (by decide), lts, rgs (by omega) (by decide), lts, lts, clamp (by omega), show nI j + (1 : Int32) = nI (j + 1) from nI_1 j, if_neg q]
    · by_cases e : i = j
      · rw [y3 i (by omega), e]
        show upd (z.1 27) j _ j = _
        rw [up1, if_pos rfl]
      · exact y2 i (by omega) hi2
    · rw [y3 i (by omega)]
      show upd (z.1 27) j _ i = _
      rw [up1, if_neg (by omega)]
