theorem may_1 : ∀ c, c < 256 → (may 1 c = true ↔ 0 + 48 ≤ c ∧ c ≤ 2 + 48) := by decide +kernel
theorem may_2 : ∀ c, c < 256 → (may 2 c = true ↔ 0 + 48 ≤ c ∧ c ≤ 9 + 48) := by decide +kernel
theorem may_3 : ∀ c, c < 256 → (may 3 c = true ↔ 0 + 48 ≤ c ∧ c ≤ 9 + 48) := by decide +kernel
theorem may_p1 : ∀ m, m < 5 → ∀ c, c < 256 → (may (4 + 6 * m + 1) c = true ↔ 1 + 48 ≤ c ∧ c ≤ 9 + 48) := by decide +kernel
theorem may_p2 : ∀ m, m < 5 → ∀ c, c < 256 → (may (4 + 6 * m + 1 + 1) c = true ↔ 0 + 48 ≤ c ∧ c ≤ 9 + 48) := by decide +kernel
theorem may_p3 : ∀ m, m < 5 → ∀ c, c < 256 → (may (4 + 6 * m + 1 + 1 + 1) c = true ↔ 0 + 48 ≤ c ∧ c ≤ 9 + 48) := by decide +kernel
theorem may_p4 : ∀ m, m < 5 → ∀ c, c < 256 → (may (4 + 6 * m + 1 + 1 + 1 + 1) c = true ↔ 0 + 48 ≤ c ∧ c ≤ 9 + 48) := by decide +kernel
theorem may_p5 : ∀ m, m < 5 → ∀ c, c < 256 → (may (4 + 6 * m + 1 + 1 + 1 + 1 + 1) c = true ↔ 0 + 48 ≤ c ∧ c ≤ 9 + 48) := by decide +kernel
theorem may_p0 : ∀ m, m < 6 → ∀ c, c < 256 → (may (4 + 6 * m) c = true ↔ c = 80 ∧ m < 5) := by decide +kernel
/-- what the text tells of a cell -/
def lc (b : Nat → Nat) (j : Nat) : Nat := if j = 25 then 0 else if j % 5 = 0 then 100 * (b (4 + 6 * (j / 5) + 1) - 48) + 10 * (b (4 + 6 * (j / 5) + 1 + 1) - 48) + (b (4 + 6 * (j / 5) + 1 + 1 + 1) - 48) else if j % 5 = 1 then b (4 + 6 * (j / 5) + 1 + 1 + 1 + 1) - 48 else if j % 5 = 2 then b (4 + 6 * (j / 5) + 1 + 1 + 1 + 1 + 1) - 48 else 0
theorem lc0 (b : Nat → Nat) {p : Nat} (h : p < 5) : lc b (5 * p) = 100 * (b (4 + 6 * p + 1) - 48) + 10 * (b (4 + 6 * p + 1 + 1) - 48) + (b (4 + 6 * p + 1 + 1 + 1) - 48) := by
  unfold lc
  rw [if_neg (by omega), if_pos (by omega), show 5 * p / 5 = p by omega]
theorem lc1 (b : Nat → Nat) {p : Nat} (h : p < 5) : lc b (5 * p + 1) = b (4 + 6 * p + 1 + 1 + 1 + 1) - 48 := by
  unfold lc
  rw [if_neg (by omega), if_neg (by omega), if_pos (by omega), show (5 * p + 1) / 5 = p by omega]
theorem lc2 (b : Nat → Nat) {p : Nat} (h : p < 5) : lc b (5 * p + 2) = b (4 + 6 * p + 1 + 1 + 1 + 1 + 1) - 48 := by
  unfold lc
  rw [if_neg (by omega), if_neg (by omega), if_neg (by omega), if_pos (by omega), show (5 * p + 2) / 5 = p by omega]
theorem lc3 (b : Nat → Nat) {j : Nat} (h : 3 ≤ j % 5 ∨ j = 25) : lc b j = 0 := by
  unfold lc
  by_cases e : j = 25
  · rw [if_pos e]
  · rw [if_neg e, if_neg (by omega), if_neg (by omega), if_neg (by omega)]
/-- what is kept by a run of the reading loop -/
def Ft (z y : Mem) : Prop := (∀ k, k ≠ 1 → k ≠ 12 → k ≠ 13 → y.1 25 k = z.1 25 k) ∧ (∀ q, q ≠ 25 → q ≠ 26 → y.1 q = z.1 q) ∧ y.2 = z.2
theorem Ft.rf (z : Mem) : Ft z z := ⟨fun _ _ _ _ => rfl, fun _ _ _ => rfl, rfl⟩
theorem Ft.tr {a b c : Mem} (h : Ft a b) (g : Ft b c) : Ft a c := ⟨fun k x y w => (g.1 k x y w).trans (h.1 k x y w), fun q x y => (g.2.1 q x y).trans (h.2.1 q x y), g.2.2.trans h.2.2⟩
theorem Ft.of {z y : Mem} (h : Fr z y) : Ft z y := ⟨fun k _ x w => h.1 k x w, fun q x _ => h.2.1 q x, h.2.2⟩
theorem Ft26 (z : Mem) (k : Nat) (v : Int32) : Ft z (sI z 26 k v) := ⟨fun _ _ _ _ => rfl, fun q _ h => by rw [sI1, if_neg h], rfl⟩
theorem Ft1 (z : Mem) (v : Int32) : Ft z (sI z 25 1 v) := ⟨fun k h _ _ => by rw [sI1, if_pos rfl, up1, if_neg h], fun q h _ => by rw [sI1, if_neg h], rfl⟩
theorem rt_L {l : Nat} {b : Nat → Nat} (hl : l ≤ 48) (hb : ∀ i, i < l → b i < 256) (K : Mem → Option (Int32 × Mem)) : ∀ (e m n : Nat) (z : Mem), m + e = 5 → e + 2 ≤ n → z.1 25 11 = nI l → (∀ i, i < l → z.1 28 i = nI (b i)) → z.1 25 1 = nI m → RS l b z (4 + 6 * m) → (z.1 25 13 = -9 → ∀ j, j < 5 * m → j % 5 < 3 → z.1 26 j = nI (lc b j)) →
    ∃ f y, isF l b f ∧ fX9_readText_L73 K n z = K y ∧ y.1 25 13 = flr l f ∧ Ft z y ∧ (y.1 25 13 = -9 → z.1 25 13 = -9 ∧ ∃ m, m ≤ 5 ∧ l = 4 + 6 * m ∧ y.1 25 1 = nI m ∧ ∀ j, j < 5 * m → j % 5 < 3 → y.1 26 j = nI (lc b j)) := by
  have flt : ∀ (n : Nat) (z : Mem) (f : Nat), 1 ≤ n → z.1 25 13 = nI f → isF l b f → ¬ (f = l ∧ 4 ≤ l ∧ (l - 4) % 6 = 0) → fX9_readText_L73 K n z = K z ∧ z.1 25 13 = flr l f ∧ ¬ z.1 25 13 = -9 := by
    intro n z f h1 h2 h3 h4
    obtain ⟨n, rfl⟩ : ∃ k, n = k + 1 := ⟨n - 1, by omega⟩
    have hf := h3.1
    have n9 : ¬ z.1 25 13 = -9 := by rw [h2]; exact ne9 (by omega)
    refine ⟨by rw [fX9_readText_L73_s, if_neg n9], ?_, n9⟩
    unfold flr
    rw [if_neg h4, h2]
  intro e
  induction e with
  | zero =>
    intro m n z g1 g2 g3 g4 g5 g6 g7
    obtain rfl : m = 5 := by omega
    rcases g6 with ⟨r1, r2, r3, r4⟩ | ⟨f, r1, r2, r3⟩
    · obtain ⟨n, rfl⟩ : ∃ k, n = k + 1 := ⟨n - 1, by omega⟩
      rw [fX9_readText_L73_s, if_pos r1, g3, r2]
      by_cases q : l ≤ 4 + 6 * 5
      · refine ⟨l, z, ⟨Nat.le_refl l, fun i hi => r4 i (by omega), fun t => absurd t (by omega)⟩, by rw [if_pos (nI_le q (by decide))], ?_, Ft.rf z, fun _ => ⟨r1, 5, Nat.le_refl _, by omega, g5, g7 r1⟩⟩
        unfold flr
        rw [if_pos ⟨rfl, by omega, by omega⟩, r1]
      · have hbj := hb (4 + 6 * 5) (by omega)
        have hF : isF l b (4 + 6 * 5) := ⟨r3, r4, fun _ => by
          cases hh : may (4 + 6 * 5) (b (4 + 6 * 5))
          · rfl
          · exact absurd ((may_p0 5 (by decide) _ hbj).mp hh).2 (by decide)⟩
        obtain ⟨f1, f2, f3⟩ := flt n (sI z 25 13 (nI (4 + 6 * 5))) (4 + 6 * 5) (by omega) rfl hF (by omega)
        refine ⟨4 + 6 * 5, sI z 25 13 (nI (4 + 6 * 5)), hF, ?_, f2, Ft.of (Fr13 z _), fun t => absurd t f3⟩
        rw [if_neg (nI_ge (by omega) (by omega)), lts, rgs (by omega) (by decide), lts, clamp (by decide), g4 _ (by omega), g5, lts, lts, if_pos (show (5 : Int32) ≤ nI 5 by decide), f1]
        by_cases w : nI (b (4 + 6 * 5)) = (80 : Int32)
        · rw [if_pos w]
        · rw [if_neg w]
    · obtain ⟨f1, f2, f3⟩ := flt n z f (by omega) r1 r2 r3
      exact ⟨f, z, r2, f1, f2, Ft.rf z, fun t => absurd t f3⟩
  | succ e ih =>
    intro m n z g1 g2 g3 g4 g5 g6 g7
    have hm : m < 5 := by omega
    rcases g6 with ⟨r1, r2, r3, r4⟩ | ⟨f, r1, r2, r3⟩
    · obtain ⟨n, rfl⟩ : ∃ k, n = k + 1 := ⟨n - 1, by omega⟩
      rw [fX9_readText_L73_s, if_pos r1, g3, r2]
      by_cases q : l ≤ 4 + 6 * m
      · refine ⟨l, z, ⟨Nat.le_refl l, fun i hi => r4 i (by omega), fun t => absurd t (by omega)⟩, by rw [if_pos (nI_le q (by omega))], ?_, Ft.rf z, fun _ => ⟨r1, m, by omega, by omega, g5, g7 r1⟩⟩
        unfold flr
        rw [if_pos ⟨rfl, by omega, by omega⟩, r1]
      · have hbj := hb (4 + 6 * m) (by omega)
        have i80 : nI (b (4 + 6 * m)) = (80 : Int32) ↔ b (4 + 6 * m) = 80 := nI_eq (b := 80) (by omega) (by decide)
        rw [if_neg (nI_ge (by omega) (by omega)), lts, rgs (by omega) (by decide), lts, clamp (by omega), g4 _ (by omega), g5]
        by_cases w : b (4 + 6 * m) = 80
        · rw [if_pos (i80.mpr w), if_neg (show ¬ (5 : Int32) ≤ nI m from nI_ge (b := 5) hm (by decide)), lts, lts, show nI (4 + 6 * m) + (1 : Int32) = nI (4 + 6 * m + 1) from nI_1 _]
          have R1 : RS l b (sI z 25 12 (nI (4 + 6 * m + 1))) (4 + 6 * m + 1) := Or.inl ⟨r1, rfl, by omega, fun i hi => by
            by_cases t : i = 4 + 6 * m
            · rw [t]; exact (may_p0 m (by omega) _ hbj).mpr ⟨w, hm⟩
            · exact r4 i (by omega)⟩
          have F1 : Ft z (sI z 25 12 (nI (4 + 6 * m + 1))) := Ft.of (Fr12 z _)
          have M1 : (sI z 25 12 (nI (4 + 6 * m + 1))).1 25 1 = nI m := g5
          have C1 : (sI z 25 12 (nI (4 + 6 * m + 1))).1 26 = z.1 26 := rfl
          generalize sI z 25 12 (nI (4 + 6 * m + 1)) = z1 at *
          rw [lts, M1, c50]
          obtain ⟨v2, z2, a2, R2, o2, F2⟩ := fig 1 9 hl hb (by rw [F1.1 11 (by decide) (by decide) (by decide)]; exact g3) (by rw [F1.2.1 28 (by decide) (by decide)]; exact g4) (may_p1 m hm) (by decide) (by omega) R1
          rw [show fX9_figure (1 : Int32) (9 : Int32) z1 = _ from a2, cls]
          have F2' := F1.tr (Ft.of F2)
          obtain ⟨v3, z3, a3, R3, o3, F3⟩ := fig 0 9 hl hb (by rw [F2'.1 11 (by decide) (by decide) (by decide)]; exact g3) (by rw [F2'.2.1 28 (by decide) (by decide)]; exact g4) (may_p2 m hm) (by decide) (by omega) R2
          rw [show fX9_figure (0 : Int32) (9 : Int32) z2 = _ from a3, cls]
          have F3' := F2'.tr (Ft.of F3)
          obtain ⟨v4, z4, a4, R4, o4, F4⟩ := fig 0 9 hl hb (by rw [F3'.1 11 (by decide) (by decide) (by decide)]; exact g3) (by rw [F3'.2.1 28 (by decide) (by decide)]; exact g4) (may_p3 m hm) (by decide) (by omega) R3
          rw [show fX9_figure (0 : Int32) (9 : Int32) z3 = _ from a4, cls, show (100 : Int32) * nI v2 = nI (100 * v2) from mlt 100 v2 rfl, k10, nI_add, nI_add, lts, rgs (by omega) (by decide), lts, clamp (by omega)]
          have F4' := (F3'.tr (Ft.of F4)).tr (Ft26 z4 (5 * m) (nI (100 * v2 + 10 * v3 + v4)))
          have R4' : RS l b (sI z4 26 (5 * m) (nI (100 * v2 + 10 * v3 + v4))) (4 + 6 * m + 1 + 1 + 1 + 1) := R4
          obtain ⟨v5, z5, a5, R5, o5, F5⟩ := fig 0 9 hl hb (by rw [F4'.1 11 (by decide) (by decide) (by decide)]; exact g3) (by rw [F4'.2.1 28 (by decide) (by decide)]; exact g4) (may_p4 m hm) (by decide) (by omega) R4'
          rw [show fX9_figure (0 : Int32) (9 : Int32) (sI z4 26 (5 * m) (nI (100 * v2 + 10 * v3 + v4))) = _ from a5, cls, show nI (5 * m) + (1 : Int32) = nI (5 * m + 1) from nI_1 _, rgs (by omega) (by decide), lts, clamp (by omega)]
          have F5' := (F4'.tr (Ft.of F5)).tr (Ft26 z5 (5 * m + 1) (nI v5))
          have R5' : RS l b (sI z5 26 (5 * m + 1) (nI v5)) (4 + 6 * m + 1 + 1 + 1 + 1 + 1) := R5
          obtain ⟨v6, z6, a6, R6, o6, F6⟩ := fig 0 9 hl hb (by rw [F5'.1 11 (by decide) (by decide) (by decide)]; exact g3) (by rw [F5'.2.1 28 (by decide) (by decide)]; exact g4) (may_p5 m hm) (by decide) (by omega) R5'
          rw [show fX9_figure (0 : Int32) (9 : Int32) (sI z5 26 (5 * m + 1) (nI v5)) = _ from a6, cls, show nI (5 * m) + (2 : Int32) = nI (5 * m + 2) from nI_add _ 2, rgs (by omega) (by decide), lts, clamp (by omega)]
          have M6 : (sI z6 26 (5 * m + 2) (nI v6)).1 25 1 = nI m := by
            show z6.1 25 1 = nI m
            rw [F6.1 1 (by decide) (by decide)]
            show z5.1 25 1 = nI m
            rw [F5.1 1 (by decide) (by decide)]
            show z4.1 25 1 = nI m
            rw [F4.1 1 (by decide) (by decide), F3.1 1 (by decide) (by decide), F2.1 1 (by decide) (by decide), M1]
          rw [M6, show nI m + (1 : Int32) = nI (m + 1) from nI_1 _, lts, lts]
          have F6' := ((F5'.tr (Ft.of F6)).tr (Ft26 z6 (5 * m + 2) (nI v6))).tr (Ft1 _ (nI (m + 1)))
          have R6' : RS l b (sI (sI z6 26 (5 * m + 2) (nI v6)) 25 1 (nI (m + 1))) (4 + 6 * (m + 1)) := R6
          obtain ⟨f, y, x1, x2, x3, x4, x5⟩ := ih (m + 1) n (sI (sI z6 26 (5 * m + 2) (nI v6)) 25 1 (nI (m + 1))) (by omega) (by omega) (by rw [F6'.1 11 (by decide) (by decide) (by decide)]; exact g3) (by rw [F6'.2.1 28 (by decide) (by decide)]; exact g4) rfl R6' (fun t j hj hj5 => by
            have t6 : z6.1 25 13 = -9 := t
            obtain ⟨t5, e6⟩ := o6 t6
            have t5 : z5.1 25 13 = -9 := t5
            obtain ⟨t4, e5⟩ := o5 t5
            have t4 : z4.1 25 13 = -9 := t4
            obtain ⟨t3, e4⟩ := o4 t4
            obtain ⟨t2, e3⟩ := o3 t3
            obtain ⟨t1, e2⟩ := o2 t2
            have d6 : z6.1 26 = upd (z5.1 26) (5 * m + 1) (nI v5) := F6.2.1 26 (by decide)
            have d5 : z5.1 26 = upd (z4.1 26) (5 * m) (nI (100 * v2 + 10 * v3 + v4)) := F5.2.1 26 (by decide)
            have d4 : z4.1 26 = z.1 26 := by rw [F4.2.1 26 (by decide), F3.2.1 26 (by decide), F2.2.1 26 (by decide), C1]
            show upd (z6.1 26) (5 * m + 2) (nI v6) j = _
            rw [d6, d5, d4, up1, up1, up1]
            by_cases j2 : j = 5 * m + 2
            · rw [if_pos j2, j2, lc2 b hm, e6]
            · rw [if_neg j2]
              by_cases j1 : j = 5 * m + 1
              · rw [if_pos j1, j1, lc1 b hm, e5]
              · rw [if_neg j1]
                by_cases j0 : j = 5 * m
                · rw [if_pos j0, j0, lc0 b hm, e2, e3, e4]
                · rw [if_neg j0]
                  exact g7 r1 j (by omega) hj5)
          exact ⟨f, y, x1, x2, x3, F6'.tr x4, fun t => ⟨r1, (x5 t).2⟩⟩
        · have hF : isF l b (4 + 6 * m) := ⟨r3, r4, fun _ => by
            cases hh : may (4 + 6 * m) (b (4 + 6 * m))
            · rfl
            · exact absurd ((may_p0 m (by omega) _ hbj).mp hh).1 w⟩
          obtain ⟨f1, f2, f3⟩ := flt n (sI z 25 13 (nI (4 + 6 * m))) (4 + 6 * m) (by omega) rfl hF (by omega)
          refine ⟨4 + 6 * m, sI z 25 13 (nI (4 + 6 * m)), hF, ?_, f2, Ft.of (Fr13 z _), fun t => absurd t f3⟩
          rw [if_neg (fun t => w (i80.mp t)), lts, lts, f1]
    · obtain ⟨f1, f2, f3⟩ := flt n z f (by omega) r1 r2 r3
      exact ⟨f, z, r2, f1, f2, Ft.rf z, fun t => absurd t f3⟩
