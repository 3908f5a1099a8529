/-! ===== fault, land ===== -/
def Fu (z y : Mem) : Prop := (∀ k, 5 ≤ k → k ≠ 12 → k ≠ 13 → y.1 25 k = z.1 25 k) ∧ (∀ q, q ≠ 25 → q ≠ 26 → y.1 q = z.1 q) ∧ y.2 = z.2
theorem Fu.tr {a b c : Mem} (h : Fu a b) (g : Fu b c) : Fu a c := ⟨fun k x y w => (g.1 k x y w).trans (h.1 k x y w), fun q x y => (g.2.1 q x y).trans (h.2.1 q x y), g.2.2.trans h.2.2⟩
theorem Fu.of {z y : Mem} (h : Ft z y) : Fu z y := ⟨fun k a x w => h.1 k (by omega) x w, h.2.1, h.2.2⟩
theorem Fu4 (z : Mem) {k : Nat} (v : Int32) (h : k < 5) : Fu z (sI z 25 k v) := ⟨fun j a _ _ => by rw [sI1, if_pos rfl, up1, if_neg (by omega)], fun q h _ => by rw [sI1, if_neg h], rfl⟩
theorem Fu.R {S : AS} {z y : Mem} (hR : Rr S z) (F : Fu z y) : Rr S y := by
  obtain ⟨h1, h2, h3, h4, h5, h6, h7, h8⟩ := hR
  obtain ⟨F, E, D⟩ := F
  exact ⟨h1.go (F 11 (by decide) (by decide) (by decide)) (E 28 (by decide) (by decide)), h2.go (F 6 (by decide) (by decide) (by decide)) (F 8 (by decide) (by decide) (by decide)) (F 9 (by decide) (by decide) (by decide)) (F 7 (by decide) (by decide) (by decide)) (E 27 (by decide) (by decide)), h3.go (F 15 (by decide) (by decide) (by decide)) (F 14 (by decide) (by decide) (by decide)) (E 29 (by decide) (by decide)), h4.go (E 41 (by decide) (by decide)) (E 42 (by decide) (by decide)), h5.go (F 17 (by decide) (by decide) (by decide)) (E 30 (by decide) (by decide)) (E 31 (by decide) (by decide)) (E 32 (by decide) (by decide)), h6.go (F 21 (by decide) (by decide) (by decide)) (E 33 (by decide) (by decide)) (E 34 (by decide) (by decide)), h7.go (F 26 (by decide) (by decide) (by decide)) (E 37 (by decide) (by decide)), h8.go (by rw [D])⟩
theorem Fu.C {z y : Mem} (F : Fu z y) : AgC z y := fun q h => ⟨F.2.1 q (by omega) (by omega), by rw [F.2.2]⟩
theorem may_0 : ∀ c, c < 256 → (may 0 c = true ↔ c = 82) := by decide +kernel
theorem rt9 {l : Nat} {b : Nat → Nat} {z : Mem} (hl : l ≤ 48) (hb : ∀ i, i < l → b i < 256) (h1 : z.1 25 11 = nI l) (h2 : ∀ i, i < l → z.1 28 i = nI (b i)) : ∃ f y, isF l b f ∧ fX9_readText z = some (flr l f, y) ∧ Fu z y ∧ (flr l f = -9 → ∃ m, m ≤ 5 ∧ l = 4 + 6 * m ∧ y.1 25 1 = nI m ∧ y.1 25 2 = nI (b 1 - 48) ∧ y.1 25 3 = nI (b 2 - 48) ∧ y.1 25 4 = nI (b 3 - 48) ∧ ∀ j, j < 5 * m → j % 5 < 3 → y.1 26 j = nI (lc b j)) := by
  unfold fX9_readText
  rw [lts, lts, lts]
  have F0 : Fu z (sI (sI (sI z 25 12 0) 25 13 (-9)) 25 1 0) := ((Fu.of (Ft.of (Fr12 z _))).tr (Fu.of (Ft.of (Fr13 _ _)))).tr (Fu4 _ _ (by decide))
  have A0 : (sI (sI (sI z 25 12 0) 25 13 (-9)) 25 1 0).1 25 13 = -9 := rfl
  have B0 : (sI (sI (sI z 25 12 0) 25 13 (-9)) 25 1 0).1 25 1 = nI 0 := rfl
  generalize sI (sI (sI z 25 12 0) 25 13 (-9)) 25 1 0 = z0 at *
  have T0 : z0.1 25 11 = nI l := by rw [F0.1 11 (by decide) (by decide) (by decide)]; exact h1
  have X0 : ∀ i, i < l → z0.1 28 i = nI (b i) := by rw [F0.2.1 28 (by decide) (by decide)]; exact h2
  have n0 : ¬ flr l 0 = -9 := by
    unfold flr
    rw [if_neg (by omega)]
    exact ne9 (by decide)
  have v0 : (0 : Int32) = flr l 0 := by
    unfold flr
    rw [if_neg (by omega)]
    rfl
  have i0 : nI l = 0 ↔ l = 0 := nI_eq (b := 0) (by omega) (by decide)
  rw [T0]
  by_cases q : l = 0
  · exact ⟨0, z0, ⟨by omega, fun i hi => absurd hi (by omega), fun t => absurd t (by omega)⟩, by rw [if_pos (i0.mpr q), ← v0], F0, fun t => absurd t n0⟩
  · have hb0 := hb 0 (by omega)
    have i82 : nI (b 0) = (82 : Int32) ↔ b 0 = 82 := nI_eq (b := 82) (by omega) (by decide)
    have e0 : z0.1 28 (0 : Int32).toNatClampNeg = nI (b 0) := X0 0 (by omega)
    rw [if_neg (fun t => q (i0.mp t)), show ∀ k : Option (Int32 × Mem), rg (0 : Int32) 48 k = k from fun k => rgs (n := 0) (by decide) (by decide) k, lts, e0]
    by_cases w : b 0 = 82
    · rw [if_pos (i82.mpr w), lts]
      have F1 : Fu z0 (sI z0 25 12 1) := Fu.of (Ft.of (Fr12 z0 _))
      have R1 : RS l b (sI z0 25 12 1) 1 := Or.inl ⟨A0, rfl, by omega, fun i hi => by
        obtain rfl : i = 0 := by omega
        exact (may_0 _ hb0).mpr w⟩
      have B1 : (sI z0 25 12 1).1 25 1 = nI 0 := B0
      generalize sI z0 25 12 1 = z1 at *
      have G1 := F0.tr F1
      obtain ⟨v2, z2, a2, R2, o2, F2⟩ := fig 0 2 hl hb (by rw [G1.1 11 (by decide) (by decide) (by decide)]; exact h1) (by rw [G1.2.1 28 (by decide) (by decide)]; exact h2) may_1 (by decide) (by omega) R1
      rw [show fX9_figure (0 : Int32) (2 : Int32) z1 = _ from a2, cls, lts]
      have G2 := (G1.tr (Fu.of (Ft.of F2))).tr (Fu4 z2 (k := 2) (nI v2) (by decide))
      obtain ⟨v3, z3, a3, R3, o3, F3⟩ := fig (z := sI z2 25 2 (nI v2)) (j := 1 + 1) 0 9 hl hb (by rw [G2.1 11 (by decide) (by decide) (by decide)]; exact h1) (by rw [G2.2.1 28 (by decide) (by decide)]; exact h2) may_2 (by decide) (by omega) R2
      rw [show fX9_figure (0 : Int32) (9 : Int32) (sI z2 25 2 (nI v2)) = _ from a3, cls, lts]
      have G3 := (G2.tr (Fu.of (Ft.of F3))).tr (Fu4 z3 (k := 3) (nI v3) (by decide))
      obtain ⟨v4, z4, a4, R4, o4, F4⟩ := fig (z := sI z3 25 3 (nI v3)) (j := 1 + 1 + 1) 0 9 hl hb (by rw [G3.1 11 (by decide) (by decide) (by decide)]; exact h1) (by rw [G3.2.1 28 (by decide) (by decide)]; exact h2) may_3 (by decide) (by omega) R3
      rw [show fX9_figure (0 : Int32) (9 : Int32) (sI z3 25 3 (nI v3)) = _ from a4, cls, lts]
      have G4 := (G3.tr (Fu.of (Ft.of F4))).tr (Fu4 z4 (k := 4) (nI v4) (by decide))
      have B4 : (sI z4 25 4 (nI v4)).1 25 1 = nI 0 := by
        show z4.1 25 1 = nI 0
        rw [F4.1 1 (by decide) (by decide)]
        show z3.1 25 1 = nI 0
        rw [F3.1 1 (by decide) (by decide)]
        show z2.1 25 1 = nI 0
        rw [F2.1 1 (by decide) (by decide), B1]
      obtain ⟨f, y, x1, x2, x3, x4, x5⟩ := rt_L hl hb (fun (z_22 : Mem) => some ((z_22.1 25 13), z_22)) 5 0 FU (sI z4 25 4 (nI v4)) (by decide) (by unfold FU; decide) (by rw [G4.1 11 (by decide) (by decide) (by decide)]; exact h1) (by rw [G4.2.1 28 (by decide) (by decide)]; exact h2) B4 R4 (fun _ j hj => absurd hj (by omega))
      refine ⟨f, y, x1, by rw [x2, ← x3], G4.tr (Fu.of x4), fun t => ?_⟩
      rw [← x3] at t
      obtain ⟨t4, m, m1, m2, m3, m4⟩ := x5 t
      have t4 : z4.1 25 13 = -9 := t4
      obtain ⟨t3, e4⟩ := o4 t4
      have t3 : z3.1 25 13 = -9 := t3
      obtain ⟨t2, e3⟩ := o3 t3
      have t2 : z2.1 25 13 = -9 := t2
      obtain ⟨t1, e2⟩ := o2 t2
      refine ⟨m, m1, m2, m3, ?_, ?_, ?_, m4⟩
      · rw [x4.1 2 (by decide) (by decide) (by decide)]
        show z4.1 25 2 = _
        rw [F4.1 2 (by decide) (by decide)]
        show z3.1 25 2 = _
        rw [F3.1 2 (by decide) (by decide), ← e2]
        rfl
      · rw [x4.1 3 (by decide) (by decide) (by decide)]
        show z4.1 25 3 = _
        rw [F4.1 3 (by decide) (by decide), ← e3]
        rfl
      · rw [x4.1 4 (by decide) (by decide) (by decide), ← e4]
        rfl
    · refine ⟨0, z0, ⟨by omega, fun i hi => absurd hi (by omega), fun _ => ?_⟩, by rw [if_neg (fun t => w (i82.mp t)), ← v0], F0, fun t => absurd t n0⟩
      cases hh : may 0 (b 0)
      · rfl
      · exact absurd ((may_0 _ hb0).mp hh) w
theorem ok_fault : Ok fX8_fault fX9_fault := by
  refine ok_of fun k S z hk hG hC => ?_
  obtain ⟨f, f1, f2⟩ := ff8 hG.1.1 hG.1.2 hC.1.1 hC.1.2
  refine ⟨flr (S.1 0) f, z, S, ?_, hC, AgM.rf z, hG.up, fun y hR => ?_⟩
  · unfold fX8_fault
    rw [f2, cls]
  · obtain ⟨g, y1, g1, g2, g3, g4⟩ := rt9 hG.1.1 hG.1.2 hR.1.1 hR.1.2
    obtain rfl := f1.u g1
    refine ⟨y1, ?_, g3.R hR, g3.C⟩
    unfold fX9_fault
    rw [g2, cls]
