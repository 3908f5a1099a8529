theorem g33z {W : Nat → Nat} {r a : Nat} (ha : a < 2197) (hW : W a = 0) (K : Int32 → Mem → Option (Unit × Mem)) (n : Nat) (z : Mem) (h : Ar 38 z W) : fX9_goMonth_L33 K (nI r) (nI a) (n + 1) (0 : Int32) z = K (0 : Int32) z := by
  rw [fX9_goMonth_L33_s, if_neg (show ¬ (64 : Int32) ≤ (0 : Int32) by decide), rgs ha (by decide), lts, clamp (by omega), h a ha, hW, if_pos]
  have e : lg_cmp (lN 0) (0 : Int64) = 0 := (cmp0 (by decide)).mpr rfl
  rw [e]
  decide
theorem g24 {c W : Nat → Nat} {m r : Nat} (h1 : 1 ≤ m) (hm : m ≤ 3) (hr4 : r ≤ 4) (hw : ∀ i, i < m → nw c i < 2 ^ 20) (ho : ∀ a, W a ≠ 0 → ∀ k, k < 4 ^ m → a + off k < 2197) (hB : ∀ a, W a < 2 ^ 63) (K : Int32 → Mem → Option (Unit × Mem)) : ∀ (d a n : Nat) (z : Mem) (T : Nat → Nat), a + d = 2197 → d < n → z.1 25 6 = nI m → holds (z.1 27) m c → Ar 38 z W → Ar 39 z T → ∃ y, fX9_goMonth_L24 K (nI r) n (nI a) z = K (nI 2197) y ∧ O39 z y ∧ Ar 39 y (fun x => T x + sm d (fun i => sm 64 (fun k => cb c W m r (a + i) k x))) := by
  intro d
  induction d with
  | zero =>
    intro a n z T q1 q2 q3 q4 q5 q6
    obtain ⟨n, rfl⟩ : ∃ k, n = k + 1 := ⟨n - 1, by omega⟩
    obtain rfl : a = 2197 := by omega
    exact ⟨z, by rw [fX9_goMonth_L24_s, if_pos (show (2197 : Int32) ≤ nI 2197 by decide)], O39.rf z, q6⟩
  | succ d ih =>
    intro a n z T q1 q2 q3 q4 q5 q6
    obtain ⟨n, rfl⟩ : ∃ k, n = k + 1 := ⟨n - 1, by omega⟩
    have ha : a < 2197 := by omega
    rw [fX9_goMonth_L24_s, if_neg (show ¬ (2197 : Int32) ≤ nI a from nI_ge (b := 2197) ha (by decide))]
    generalize hK : (fun (x3_25 : Int32) (z_24 : Mem) => lt (nI a + (1 : Int32)) (fun x2_26 => (fX9_goMonth_L24 K (nI r) n x2_26 z_24))) = K2
    have sh : ∀ x (T : Nat → Nat), T x + sm (d + 1) (fun i => sm 64 (fun k => cb c W m r (a + i) k x)) = T x + sm 64 (fun k => cb c W m r a k x) + sm d (fun i => sm 64 (fun k => cb c W m r (a + 1 + i) k x)) := by
      intro x T
      rw [sm_head, Nat.add_zero, ← Nat.add_assoc]
      congr 1
      exact sm_congr fun j _ => by rw [show a + (j + 1) = a + 1 + j by omega]
    have key : ∃ x' y, fX9_goMonth_L33 K2 (nI r) (nI a) FU (0 : Int32) z = K2 x' y ∧ O39 z y ∧ Ar 39 y (fun x => T x + sm 64 (fun k => cb c W m r a k x)) := by
      by_cases w : W a = 0
      · have FS : FU = 999999 + 1 := rfl
        refine ⟨0, z, by rw [FS]; exact g33z ha w K2 999999 z q5, O39.rf z, q6.eq fun x hx => ?_⟩
        rw [sm_zero (fun k _ => by
          show (if k < 4 ^ m ∧ a + off k = x ∧ rul c m x r = true then W a else 0) = 0
          rw [w]
          split <;> rfl), Nat.add_zero]
      · obtain ⟨x', y, y1, y2, y3⟩ := g33 h1 hm hr4 hw ha (ho a w) w (hB a) K2 64 0 FU z T (by decide) (by unfold FU; decide) q3 q4 q5 q6
        refine ⟨x', y, y1, y2, y3.eq fun x hx => ?_⟩
        congr 1
    obtain ⟨x', y, y1, y2, y3⟩ := key
    rw [y1, ← hK]
    dsimp only
    rw [lts, show nI a + (1 : Int32) = nI (a + 1) from nI_1 a]
    obtain ⟨v, v1, v2, v3⟩ := ih (a + 1) n y _ (by omega) (by omega) (by rw [y2.1]; exact q3) (by rw [y2.1]; exact q4) (q5.go (y2.2 38 (by decide))) y3
    refine ⟨v, v1, y2.tr v2, v3.eq fun x hx => ?_⟩
    rw [sh x T]
theorem cb_sum {c W : Nat → Nat} {m r x : Nat} (h : m = 1 ∨ m = 2 ∨ m = 3) (hx : x < 2197) : sm 2197 (fun a => sm 64 (fun k => cb c W m r a k x)) = if rul c m x r = true then DD m W x else 0 := by
  rw [sm_swap]
  by_cases g : rul c m x r = true
  · rw [if_pos g, ← mo_eq W x m h]
    refine sm_congr fun k _ => ?_
    by_cases q : k < 4 ^ m
    · have e : (fun a => cb c W m r a k x) = (fun a => if a + off k = x then W a else 0) := by
        funext a
        show (if k < 4 ^ m ∧ a + off k = x ∧ rul c m x r = true then W a else 0) = _
        by_cases w : a + off k = x
        · rw [if_pos w, if_pos ⟨q, w, g⟩]
        · rw [if_neg w, if_neg (fun t => w t.2.1)]
      rw [e, sm_pick]
      by_cases w : off k ≤ x
      · rw [if_pos ⟨w, by omega⟩, if_pos ⟨q, w⟩]
      · rw [if_neg (fun t => w t.1), if_neg (fun t => w t.2)]
    · rw [if_neg (fun t => q t.1)]
      exact sm_zero fun a _ => if_neg (fun t => q t.1)
  · rw [if_neg g]
    exact sm_zero fun k _ => sm_zero fun a _ => if_neg (fun t => g t.2.2)
theorem zero39 (K : Int32 → Mem → Option (Unit × Mem)) : ∀ (d j n : Nat) (z : Mem), j + d = 2197 → d < n → (∀ i, i < j → z.2 39 i = lN 0) → ∃ y, fX9_goMonth_L2 K n (nI j) z = K (nI 2197) y ∧ Ar 39 y (fun _ => 0) ∧ O39 z y := by
  intro d
  induction d with
  | zero =>
    intro j n z h1 h2 h3
    obtain ⟨n, rfl⟩ : ∃ k, n = k + 1 := ⟨n - 1, by omega⟩
    obtain rfl : j = 2197 := by omega
    exact ⟨z, by rw [fX9_goMonth_L2_s, if_pos (show (2197 : Int32) ≤ nI 2197 by decide)], h3, O39.rf z⟩
  | succ d ih =>
    intro j n z h1 h2 h3
    obtain ⟨n, rfl⟩ : ∃ k, n = k + 1 := ⟨n - 1, by omega⟩
    obtain ⟨y, y1, y2, y3⟩ := ih (j + 1) n (sL z 39 j (lN 0)) (by omega) (by omega) (fun i hi => by
      rw [sL2, if_pos rfl, upL1]
      by_cases e : i = j
      · rw [if_pos e]
      · rw [if_neg e]; exact h3 i (by omega))
    refine ⟨y, ?_, y2, (O39.sL z _ _).tr y3⟩
    rw [fX9_goMonth_L2_s, if_neg (show ¬ (2197 : Int32) ≤ nI j from nI_ge (b := 2197) (by omega) (by decide)), rgs (by omega) (by decide), lts, lts, clamp (by omega), show nI j + (1 : Int32) = nI (j + 1) from nI_1 j]
    exact y1
/-- only the two long rows change -/
def O38 (z y : Mem) : Prop := y.1 = z.1 ∧ ∀ q, q ≠ 38 → q ≠ 39 → y.2 q = z.2 q
theorem O38.rf (z : Mem) : O38 z z := ⟨rfl, fun _ _ _ => rfl⟩
theorem O38.tr {a b c : Mem} (h : O38 a b) (g : O38 b c) : O38 a c := ⟨g.1.trans h.1, fun q x y => (g.2 q x y).trans (h.2 q x y)⟩
theorem O38.sL (z : Mem) (k : Nat) (v : Int64) : O38 z (sL z 38 k v) := ⟨rfl, fun q hq _ => by rw [sL2, if_neg hq]⟩
theorem O38.of {z y : Mem} (h : O39 z y) : O38 z y := ⟨h.1, fun q _ hq => h.2 q hq⟩
theorem copy38 (K : Int32 → Mem → Option (Unit × Mem)) {V : Nat → Nat} : ∀ (d j n : Nat) (z : Mem), j + d = 2197 → d < n → Ar 39 z V → (∀ i, i < j → z.2 38 i = lN (V i)) → ∃ y, fX9_goMonth_L171 K n (nI j) z = K (nI 2197) y ∧ Ar 38 y V ∧ O38 z y := by
  intro d
  induction d with
  | zero =>
    intro j n z h1 h2 h3 h4
    obtain ⟨n, rfl⟩ : ∃ k, n = k + 1 := ⟨n - 1, by omega⟩
    obtain rfl : j = 2197 := by omega
    exact ⟨z, by rw [fX9_goMonth_L171_s, if_pos (show (2197 : Int32) ≤ nI 2197 by decide)], h4, O38.rf z⟩
  | succ d ih =>
    intro j n z h1 h2 h3 h4
    obtain ⟨n, rfl⟩ : ∃ k, n = k + 1 := ⟨n - 1, by omega⟩
    have hj : j < 2197 := by omega
    obtain ⟨y, y1, y2, y3⟩ := ih (j + 1) n (sL z 38 j (lN (V j))) (by omega) (by omega) (h3.go (by rw [sL2, if_neg (by decide)])) (fun i hi => by
      rw [sL2, if_pos rfl, upL1]
      by_cases e : i = j
      · rw [if_pos e, e]
      · rw [if_neg e]; exact h4 i (by omega))
    refine ⟨y, ?_, y2, (O38.sL z _ _).tr y3⟩
    rw [fX9_goMonth_L171_s, if_neg (show ¬ (2197 : Int32) ≤ nI j from nI_ge (b := 2197) hj (by decide)), rgs hj (by decide), lts, rgs hj (by decide), lts, lts, clamp (by omega), h3 j hj, show nI j + (1 : Int32) = nI (j + 1) from nI_1 j]
    exact y1
theorem goMonth9 {c W : Nat → Nat} {m r : Nat} {z : Mem} (h1 : 1 ≤ m) (hm : m ≤ 3) (hr4 : r ≤ 4) (hw : ∀ i, i < m → nw c i < 2 ^ 20) (ho : ∀ a, W a ≠ 0 → ∀ k, k < 4 ^ m → a + off k < 2197) (hB : ∀ a, W a < 2 ^ 63) (h6 : z.1 25 6 = nI m) (hh : holds (z.1 27) m c) (hA : Ar 38 z W) : ∃ y, fX9_goMonth (nI r) z = some ((), y) ∧ O38 z y ∧ Ar 38 y (fun x => if rul c m x r = true then DD m W x else 0) := by
  unfold fX9_goMonth
  generalize hK : (fun (x2_3 : Int32) (z_2 : Mem) => (fX9_goMonth_L24 (fun (x2_6 : Int32) (z_5 : Mem) => (fX9_goMonth_L171 (fun (x2_9 : Int32) (z_8 : Mem) => some ((), z_8)) FU (0 : Int32) z_5)) (nI r) FU (0 : Int32) z_2)) = K
  obtain ⟨y, y1, y2, y3⟩ := zero39 K 2197 0 FU z (by decide) (by unfold FU; decide) (fun i hi => absurd hi (by omega))
  have y1' : fX9_goMonth_L2 K FU (0 : Int32) z = _ := y1
  rw [y1', ← hK]
  dsimp only
  generalize hK2 : (fun (x2_6 : Int32) (z_5 : Mem) => (fX9_goMonth_L171 (fun (x2_9 : Int32) (z_8 : Mem) => some ((), z_8)) FU (0 : Int32) z_5)) = K2
  obtain ⟨w, w1, w2, w3⟩ := g24 (r := r) h1 hm hr4 hw ho hB K2 2197 0 FU y _ (by decide) (by unfold FU; decide) (by rw [y3.1]; exact h6) (by rw [y3.1]; exact hh) (hA.go (y3.2 38 (by decide))) y2
  have w1' : fX9_goMonth_L24 K2 (nI r) FU (0 : Int32) y = _ := w1
  rw [w1', ← hK2]
  dsimp only
  have w4 : Ar 39 w (fun x => if rul c m x r = true then DD m W x else 0) := w3.eq fun x hx => by
    rw [Nat.zero_add, ← cb_sum (by omega) hx]
    exact sm_congr fun a _ => sm_congr fun k _ => by rw [Nat.zero_add]
  obtain ⟨v, v1, v2, v3⟩ := copy38 (fun (x2_9 : Int32) (z_8 : Mem) => some ((), z_8)) 2197 0 FU w (by decide) (by unfold FU; decide) w4 (fun i hi => absurd hi (by omega))
  exact ⟨v, v1, ((O38.of y3).tr (O38.of w2)).tr v3, v2⟩
theorem off_b : ∀ m, m < 4 → ∀ k, k < 4 ^ m → off k % 13 ≤ (if 0 < m then 3 else 0) ∧ off k / 13 % 13 ≤ (if 1 < m then 3 else 0) ∧ off k / 169 ≤ (if 2 < m then 3 else 0) := by decide
theorem line51 {c rl : Nat → Nat} {m n8 : Nat} (h1 : 1 ≤ m) (hm : m ≤ 3) (h8 : n8 ≤ 4) (hrl : ∀ t, t < n8 → rl t ≤ 4) (hw : ∀ i, i < m → nw c i < 2 ^ 20) (K : Int32 → Mem → Option (Int64 × Mem)) : ∀ (d t n : Nat) (z : Mem), t + d = n8 → d < n → z.1 25 26 = nI n8 → (∀ t, t < n8 → z.1 37 t = nI (rl t)) → z.1 25 6 = nI m → holds (z.1 27) m c → Ar 38 z (Wn c rl m t) → ∃ y, fX9_line_L51 K n (nI t) z = K (nI n8) y ∧ O38 z y ∧ Ar 38 y (Wn c rl m n8) := by
  intro d
  induction d with
  | zero =>
    intro t n z q1 q2 q3 q4 q5 q6 q7
    obtain ⟨n, rfl⟩ : ∃ k, n = k + 1 := ⟨n - 1, by omega⟩
    obtain rfl : t = n8 := by omega
    exact ⟨z, by rw [fX9_line_L51_s, q3, if_pos (nI_le (Nat.le_refl _) (by omega))], O38.rf z, q7⟩
  | succ d ih =>
    intro t n z q1 q2 q3 q4 q5 q6 q7
    obtain ⟨n, rfl⟩ : ∃ k, n = k + 1 := ⟨n - 1, by omega⟩
    have ht : t < n8 := by omega
    have su := Sup_W c rl hm t (by omega)
    have hB : ∀ x, Wn c rl m t x < 2 ^ 63 := fun x => by
      have a1 := W_le c rl hm t x
      have a2 : 64 ^ t ≤ 64 ^ 4 := Nat.pow_le_pow_right (by decide) (by omega)
      have : (64 : Nat) ^ 4 < 2 ^ 63 := by decide
      omega
    have be9 : ∀ j, be m t 0 j ≤ 9 := fun j => by
      unfold be
      split
      · rw [if_neg (by omega)]; omega
      · omega
    have ho : ∀ a, Wn c rl m t a ≠ 0 → ∀ k, k < 4 ^ m → a + off k < 2197 := fun a ha k hk => by
      have s1 := su a ha
      have s2 := off_b m (by omega) k hk
      have b0 := be9 0
      have b1 := be9 1
      have b2 := be9 2
      have u0 : (if 0 < m then 3 else 0) ≤ 3 := by split <;> omega
      have u1 : (if 1 < m then 3 else 0) ≤ 3 := by split <;> omega
      have u2 : (if 2 < m then 3 else 0) ≤ 3 := by split <;> omega
      omega
    obtain ⟨y, y1, y2, y3⟩ := goMonth9 (r := rl t) h1 hm (hrl t ht) hw ho hB q5 q6 q7
    rw [fX9_line_L51_s, q3, if_neg (nI_ge ht (by omega)), rgs (by omega) (by decide), lts, clamp (by omega), q4 t ht, y1, cls, lts, show nI t + (1 : Int32) = nI (t + 1) from nI_1 t]
    obtain ⟨v, v1, v2, v3⟩ := ih (t + 1) n y (by omega) (by omega) (by rw [y2.1]; exact q3) (by rw [y2.1]; exact q4) (by rw [y2.1]; exact q5) (by rw [y2.1]; exact q6) y3
    exact ⟨v, v1, y2.tr v2, v3⟩
theorem line21 (K : Int32 → Mem → Option (Int64 × Mem)) : ∀ (d j n : Nat) (z : Mem), j + d = 2197 → d < n → (∀ i, i < j → z.2 38 i = lN (if i = 0 then 1 else 0)) → ∃ y, fX9_line_L21 K n (nI j) z = K (nI 2197) y ∧ Ar 38 y (fun x => if x = 0 then 1 else 0) ∧ O38 z y := by
  intro d
  induction d with
  | zero =>
    intro j n z h1 h2 h3
    obtain ⟨n, rfl⟩ : ∃ k, n = k + 1 := ⟨n - 1, by omega⟩
    obtain rfl : j = 2197 := by omega
    exact ⟨z, by rw [fX9_line_L21_s, if_pos (show (2197 : Int32) ≤ nI 2197 by decide)], h3, O38.rf z⟩
  | succ d ih =>
    intro j n z h1 h2 h3
    obtain ⟨n, rfl⟩ : ∃ k, n = k + 1 := ⟨n - 1, by omega⟩
    have hj : j < 2197 := by omega
    have i0 : nI j = 0 ↔ j = 0 := nI_eq (b := 0) (by omega) (by decide)
    obtain ⟨y, y1, y2, y3⟩ := ih (j + 1) n (sL z 38 j (lN (if j = 0 then 1 else 0))) (by omega) (by omega) (fun i hi => by
      rw [sL2, if_pos rfl, upL1]
      by_cases e : i = j
      · rw [if_pos e, e]
      · rw [if_neg e]; exact h3 i (by omega))
    refine ⟨y, ?_, y2, (O38.sL z _ _).tr y3⟩
    rw [fX9_line_L21_s, if_neg (show ¬ (2197 : Int32) ≤ nI j from nI_ge (b := 2197) hj (by decide)), show nI j + (1 : Int32) = nI (j + 1) from nI_1 j, ← y1]
    by_cases e : j = 0
    · rw [if_pos (i0.mpr e), rgs hj (by decide), lts, lts, clamp (by omega), if_pos e]
      rfl
    · rw [if_neg (fun t => e (i0.mp t)), rgs hj (by decide), lts, lts, clamp (by omega), if_neg e]
      rfl
theorem line79 {z : Mem} {V : Nat → Nat} (h : Ar 38 z V) (K : Int64 → Int32 → Mem → Option (Int64 × Mem)) : ∀ (d a n : Nat), a + d = 2197 → d < n → fX9_line_L79 K n (lN (sm a V)) (nI a) z = K (lN (sm 2197 V)) (nI 2197) z := by
  intro d
  induction d with
  | zero =>
    intro a n h1 h2
    obtain ⟨n, rfl⟩ : ∃ k, n = k + 1 := ⟨n - 1, by omega⟩
    obtain rfl : a = 2197 := by omega
    rw [fX9_line_L79_s, if_pos (show (2197 : Int32) ≤ nI 2197 by decide)]
  | succ d ih =>
    intro a n h1 h2
    obtain ⟨n, rfl⟩ : ∃ k, n = k + 1 := ⟨n - 1, by omega⟩
    have ha : a < 2197 := by omega
    rw [fX9_line_L79_s, if_neg (show ¬ (2197 : Int32) ≤ nI a from nI_ge (b := 2197) ha (by decide)), rgs ha (by decide), lts, lts, lts, clamp (by omega), h a ha, lN_add, show nI a + (1 : Int32) = nI (a + 1) from nI_1 a]
    exact ih (a + 1) n (by omega) (by omega)
theorem ok_line : Ok fX8_line fX9_line := by
  refine ok_of fun k S z hk hG hC => ?_
  have hm5 := hG.2.1.1
  have a1 : nI (S.1 1) < (1 : Int32) ↔ S.1 1 < 1 := nI_ltI (b := 1) (by omega) (by decide)
  have a2 : nI (S.1 1) ≤ (3 : Int32) ↔ S.1 1 ≤ 3 := nI_leI (b := 3) (by omega) (by decide)
  have tI : (nI (S.1 1)).toInt = (S.1 1 : Int) := nI_toInt (by omega)
  by_cases h : 1 ≤ S.1 1 ∧ S.1 1 ≤ 3
  · obtain ⟨y, y1, y2⟩ := line8 (by omega) hG hC h.1 h.2
    refine ⟨lN (sm 2197 (Wn (S.2.1 1) (S.2.1 9) (S.1 1) (S.1 8))), y, S, ?_, ?_, y2.M (by decide), hG.up, fun x hR => ?_⟩
    · unfold fX8_line fX2_size_2
      rw [cls, hC.2.1.1, if_neg (fun t => by have := a1.mp t; omega), cls, if_pos (a2.mpr h.2), y1, cls]
    · obtain ⟨h1, h2, h3, h4, h5, h6, h7, h8⟩ := hC
      exact ⟨h1.go (y2 1 (by decide)).1 (y2 10 (by decide)).1, h2.go (y2 2 (by decide)).1 (y2 0 (by decide)).1 (y2 11 (by decide)).1, h3.go (y2 3 (by decide)).1 (y2 12 (by decide)).1, h4.go (y2 4 (by decide)).1 (y2 13 (by decide)).1, h5.go (y2 5 (by decide)).1 (y2 14 (by decide)).1 (y2 15 (by decide)).1 (y2 16 (by decide)).1, h6.go (y2 6 (by decide)).1 (y2 17 (by decide)).1 (y2 18 (by decide)).1 (y2 19 (by decide)).1 (y2 20 (by decide)).1, h7.go (y2 7 (by decide)).1 (y2 21 (by decide)).1, h8.go (y2 8 (by decide)).2⟩
    · obtain ⟨g1, g2, g3, g4, g5, g6, g7⟩ := hG
      have hw : ∀ i, i < S.1 1 → nw (S.2.1 1) i < 2 ^ 20 := fun i hi => by
        have := g2.2.2.2.2.1 i hi
        unfold nw
        omega
      have r2 := hR.2.1
      have r7 := hR.2.2.2.2.2.2.1
      unfold fX9_line
      rw [r2.1, in9i _ 1 3 rfl rfl, cls, if_pos (show (1 : Int) ≤ (nI (S.1 1)).toInt ∧ (nI (S.1 1)).toInt ≤ 3 by rw [tI]; omega), if_neg one0]
      generalize hK : (fun (x1_7 : Int32) (z_6 : Mem) => (fX9_line_L51 (fun (x1_10 : Int32) (z_9 : Mem) => (fX9_line_L79 (fun (x1_13 : Int64) (x3_14 : Int32) (z_12 : Mem) => some (x1_13, z_12)) FU (0 : Int64) (0 : Int32) z_9)) FU (0 : Int32) z_6)) = K
      obtain ⟨w, w1, w2, w3⟩ := line21 K 2197 0 FU x (by decide) (by unfold FU; decide) (fun i hi => absurd hi (by omega))
      have w1' : fX9_line_L21 K FU (0 : Int32) x = _ := w1
      rw [w1', ← hK]
      dsimp only
      generalize hK2 : (fun (x1_10 : Int32) (z_9 : Mem) => (fX9_line_L79 (fun (x1_13 : Int64) (x3_14 : Int32) (z_12 : Mem) => some (x1_13, z_12)) FU (0 : Int64) (0 : Int32) z_9)) = K2
      obtain ⟨v, v1, v2, v3⟩ := line51 (c := S.2.1 1) (rl := S.2.1 9) (m := S.1 1) (n8 := S.1 8) h.1 h.2 g7.1 g7.2 hw K2 (S.1 8) 0 FU w (by omega) (by have := g7.1; unfold FU; omega) (by rw [w3.1]; exact r7.1) (by rw [w3.1]; exact r7.2) (by rw [w3.1]; exact r2.1) (by rw [w3.1]; exact r2.2.2.2.2) w2
      have v1' : fX9_line_L51 K2 FU (0 : Int32) w = _ := v1
      rw [v1', ← hK2]
      dsimp only
      have o := w3.tr v2
      refine ⟨v, line79 v3 (fun (x1_13 : Int64) (x3_14 : Int32) (z_12 : Mem) => some (x1_13, z_12)) 2197 0 FU (by decide) (by unfold FU; decide), ?_, fun q hq => ⟨by rw [o.1], o.2 q (by omega) (by omega)⟩⟩
      obtain ⟨h1, h2, h3, h4, h5, h6, h7, h8⟩ := hR
      exact ⟨h1.go (by rw [o.1]) (by rw [o.1]), h2.go (by rw [o.1]) (by rw [o.1]) (by rw [o.1]) (by rw [o.1]) (by rw [o.1]), h3.go (by rw [o.1]) (by rw [o.1]) (by rw [o.1]), h4.go (by rw [o.1]) (by rw [o.1]), h5.go (by rw [o.1]) (by rw [o.1]) (by rw [o.1]) (by rw [o.1]), h6.go (by rw [o.1]) (by rw [o.1]) (by rw [o.1]), h7.go (by rw [o.1]) (by rw [o.1]), h8.go (o.2 25 (by decide) (by decide))⟩
  · refine same hG hC (-3) ?_ fun y hR => ?_
    · unfold fX8_line fX2_size_2
      by_cases q : S.1 1 < 1
      · rw [cls, hC.2.1.1, if_pos (a1.mpr q)]
      · rw [cls, hC.2.1.1, if_neg (fun t => q (a1.mp t)), cls, if_neg (fun t => by have := a2.mp t; omega)]
    · unfold fX9_line
      rw [hR.2.1.1, in9i _ 1 3 rfl rfl, cls, if_neg (show ¬ ((1 : Int) ≤ (nI (S.1 1)).toInt ∧ (nI (S.1 1)).toInt ≤ 3) by rw [tI]; omega), if_pos rfl]
