theorem bit5 : ∀ b, b < 32 → ∀ i, i < 5 → ((((nI b >>> (nI i &&& 31)) &&& (1 : Int32)) = 0) ↔ b / 2 ^ i % 2 = 0) := by decide
theorem sh5 : ∀ q, q < 5 → ∀ i, i < 5 → (((((1 : Int32) <<< (nI q &&& 31)) >>> (nI i &&& 31)) &&& (1 : Int32)) = 0 ↔ ¬ i = q) := by decide
theorem or5 : ∀ i, i < 5 → ∀ b, b < 2 ^ i → nI b ||| ((1 : Int32) <<< (nI i &&& 31)) = nI (b + 2 ^ i) := by decide
theorem z5 : ∀ i, i < 5 → (((0 : Int32) >>> (nI i &&& 31)) &&& (1 : Int32)) = 0 := by decide
def bsum (P : Nat → Bool) : Nat → Nat
  | 0 => 0
  | i + 1 => bsum P i + (if P i = true then 2 ^ i else 0)
theorem bsum_lt (P : Nat → Bool) (i : Nat) : bsum P i < 2 ^ i := by
  induction i with
  | zero => exact Nat.zero_lt_one
  | succ i ih =>
    unfold bsum
    have : 2 ^ (i + 1) = 2 * 2 ^ i := by rw [Nat.pow_succ, Nat.mul_comm]
    split <;> omega
theorem bsum_bit (P : Nat → Bool) {i j : Nat} (h : j < i) : bsum P i / 2 ^ j % 2 = if P j = true then 1 else 0 := by
  induction i with
  | zero => omega
  | succ i ih =>
    unfold bsum
    by_cases e : j = i
    · subst e
      have hl := bsum_lt P j
      have hp : 0 < 2 ^ j := Nat.pos_of_neZero _
      split
      · rw [Nat.add_div_right _ hp, Nat.div_eq_of_lt hl]
      · rw [Nat.add_zero, Nat.div_eq_of_lt hl]
    · split
      · obtain ⟨d, rfl⟩ : ∃ d, i = j + 1 + d := ⟨i - j - 1, by omega⟩
        have : 2 ^ (j + 1 + d) = 2 ^ j * (2 * 2 ^ d) := by rw [Nat.pow_add, Nat.pow_succ, Nat.mul_assoc]
        rw [this, Nat.add_mul_div_left _ _ (Nat.pos_of_neZero _), Nat.add_mul_mod_self_left]
        exact ih (by omega)
      · rw [Nat.add_zero]
        exact ih (by omega)
theorem lbut2 {m : Nat} {c : Nat → Nat} {z : Mem} (hm : m ≤ 5) (hz : z.1 2 1 = nI m) (hh : holds (z.1 11) m c) (hw : ∀ p, p < m → nw c p < 2 ^ 20) (bits : Int32) (e : Nat → Bool) (he : ∀ i, i < m → ((((bits >>> (nI i &&& 31)) &&& (1 : Int32)) = 0) ↔ e i = true)) (K : Int32 → Int32 → Mem → Option (Int32 × Mem)) :
    ∀ (d i n : Nat), i + d = m → d < n → fX2_lightestBut_2_L5 K bits n (enc (lb (nw c) e i)) (nI i) z = K (enc (lb (nw c) e m)) (nI m) z := by
  intro d
  induction d with
  | zero =>
    intro i n h1 h2
    obtain ⟨n, rfl⟩ : ∃ k, n = k + 1 := ⟨n - 1, by omega⟩
    have : i = m := by omega
    subst this
    rw [fX2_lightestBut_2_L5_s, hz, if_pos (nI_le (Nat.le_refl i) (by omega))]
  | succ d ih =>
    intro i n h1 h2
    obtain ⟨n, rfl⟩ : ∃ k, n = k + 1 := ⟨n - 1, by omega⟩
    have hi : i < m := by omega
    rw [← ih (i + 1) n (by omega) (by omega), fX2_lightestBut_2_L5_s, hz, if_neg (nI_ge hi (by omega)), jns]
    dsimp only
    have e1 : nI i + (1 : Int32) = nI (i + 1) := nI_1 i
    by_cases hb : e i = true
    · rw [if_pos ((he i hi).mpr hb), if_neg one0]
      cases hl : lb (nw c) e i with
      | none =>
        have : lb (nw c) e (i + 1) = some i := by unfold lb; rw [if_pos hb, hl]
        rw [this, if_pos (show enc none = (-9 : Int32) from rfl), lts, e1]
        rfl
      | some u =>
        have hu := (lb_some _ _ _ _ hl).1
        rw [if_neg (show ¬ enc (some u) = (-9 : Int32) from enc_ne (by omega)), noon2 hm hi hh, cls, show fX2_noonWeight_2 (enc (some u)) z = _ from noon2 hm (by omega) hh, cls]
        have w1 := hw i hi
        have w2 := hw u (by omega)
        by_cases l : nw c u ≤ nw c i
        · have : lb (nw c) e (i + 1) = some u := by unfold lb; rw [if_pos hb, hl]; dsimp only; rw [if_pos l]
          rw [this, if_pos (nI_le l (by omega)), lts, e1]
        · have : lb (nw c) e (i + 1) = some i := by unfold lb; rw [if_pos hb, hl]; dsimp only; rw [if_neg l]
          rw [this, if_neg (nI_ge (by omega) (by omega)), lts, e1]
          rfl
    · have : lb (nw c) e (i + 1) = lb (nw c) e i := by rw [show lb (nw c) e (i + 1) = _ from rfl]; unfold lb; rw [if_neg hb]; cases i <;> rfl
      rw [this, if_neg (fun q => hb ((he i hi).mp q)), if_pos rfl, lts, e1]
theorem lightest2 {m : Nat} {c : Nat → Nat} {z : Mem} (hm : m ≤ 5) (hz : z.1 2 1 = nI m) (hh : holds (z.1 11) m c) (hw : ∀ p, p < m → nw c p < 2 ^ 20) (bits : Int32) (e : Nat → Bool) (he : ∀ i, i < m → ((((bits >>> (nI i &&& 31)) &&& (1 : Int32)) = 0) ↔ e i = true)) : fX2_lightestBut_2 bits z = some (enc (lb (nw c) e m), z) := by
  unfold fX2_lightestBut_2
  exact lbut2 hm hz hh hw bits e he _ m 0 FU (by omega) (by unfold FU; omega)
theorem illbits2 {m il : Nat} {c : Nat → Nat} {z : Mem} (hm : m ≤ 5) (hil : il ≤ 9) (hz : z.1 2 1 = nI m) (h3 : z.1 2 3 = nI il) (hh : holds (z.1 11) m c) (hw : ∀ p, p < m → c (5 * p) < 2 ^ 20) (K : Int32 → Int32 → Mem → Option (Int32 × Mem)) :
    ∀ (d i n : Nat), i + d = m → d < n → fX2_illBits_2_L4 K n (nI (bsum (fun o => decide (c (5 * o) < 40 * il)) i)) (nI i) z = K (nI (bsum (fun o => decide (c (5 * o) < 40 * il)) m)) (nI m) z := by
  intro d
  induction d with
  | zero =>
    intro i n h1 h2
    obtain ⟨n, rfl⟩ : ∃ k, n = k + 1 := ⟨n - 1, by omega⟩
    have : i = m := by omega
    subst this
    rw [fX2_illBits_2_L4_s, hz, if_pos (nI_le (Nat.le_refl i) (by omega))]
  | succ d ih =>
    intro i n h1 h2
    obtain ⟨n, rfl⟩ : ∃ k, n = k + 1 := ⟨n - 1, by omega⟩
    have hi : i < m := by omega
    have e1 : nI i + (1 : Int32) = nI (i + 1) := nI_1 i
    rw [← ih (i + 1) n (by omega) (by omega), fX2_illBits_2_L4_s, hz, if_neg (nI_ge hi (by omega)), ill2 hm hi hil h3 hh (hw i hi), cls]
    by_cases g : c (5 * i) < 40 * il
    · have : bsum (fun o => decide (c (5 * o) < 40 * il)) (i + 1) = bsum (fun o => decide (c (5 * o) < 40 * il)) i + 2 ^ i := by
        show _ + (if decide (c (5 * i) < 40 * il) = true then 2 ^ i else 0) = _
        rw [if_pos (by simpa using g)]
      rw [this, if_pos g, if_neg one0, lts, or5 i (by omega) _ (bsum_lt _ i), lts, e1]
    · have : bsum (fun o => decide (c (5 * o) < 40 * il)) (i + 1) = bsum (fun o => decide (c (5 * o) < 40 * il)) i := by
        show _ + (if decide (c (5 * i) < 40 * il) = true then 2 ^ i else 0) = _
        rw [if_neg (by simpa using g), Nat.add_zero]
      rw [this, if_neg g, if_pos rfl, lts, e1]
theorem illB2 {m il : Nat} {c : Nat → Nat} {z : Mem} (hm : m ≤ 5) (hil : il ≤ 9) (hz : z.1 2 1 = nI m) (h3 : z.1 2 3 = nI il) (hh : holds (z.1 11) m c) (hw : ∀ p, p < m → c (5 * p) < 2 ^ 20) : fX2_illBits_2 z = some (nI (bsum (fun o => decide (c (5 * o) < 40 * il)) m), z) := by
  unfold fX2_illBits_2
  exact illbits2 hm hil hz h3 hh hw _ m 0 FU (by omega) (by unfold FU; omega)
theorem crowned2 {m il lw : Nat} {c : Nat → Nat} {z : Mem} (hm : m ≤ 5) (hil : il ≤ 9) (hlw : lw ≤ 2) (hz : z.1 2 1 = nI m) (h3 : z.1 2 3 = nI il) (hh : holds (z.1 11) m c) (hw : ∀ p, p < m → nw c p < 2 ^ 20) : fX2_crownedBy_2 (nI lw) z = some (enc (crw m il lw c), z) := by
  have hc : ∀ p, p < m → c (5 * p) < 2 ^ 20 := fun p hp => by have := hw p hp; unfold nw at this; omega
  unfold fX2_crownedBy_2 crw
  by_cases h2 : lw = 2
  · rw [if_pos (show nI lw = (2 : Int32) by rw [h2]; rfl), if_pos h2, illB2 hm hil hz h3 hh hc, cls, lightest2 hm hz hh hw _ (fun o => !decide (c (5 * o) < 40 * il)) (fun i hi => ?_), cls]
    have hl := bsum_lt (fun o => decide (c (5 * o) < 40 * il)) m
    have hp : 2 ^ m ≤ 2 ^ 5 := Nat.pow_le_pow_right (by decide) hm
    rw [bit5 _ (by omega) i (by omega), bsum_bit _ hi]
    by_cases g : c (5 * i) < 40 * il
    · rw [if_pos (by simpa using g)]; simp [g]
    · rw [if_neg (by simpa using g)]; simp [g]
  · rw [if_neg (show ¬ nI lw = (2 : Int32) from fun q => h2 ((nI_eq (by omega) (by decide)).mp q)), if_neg h2, lightest2 hm hz hh hw _ (fun _ => true) (fun i hi => by simp [z5 i (by omega)]), cls]
    cases hl : lb (nw c) (fun _ => true) m with
    | none =>
      by_cases h1 : nI lw = (1 : Int32)
      · rw [if_pos h1, if_pos (show enc none = (-9 : Int32) from rfl)]
      · rw [if_neg h1]
    | some u =>
      have hu := (lb_some _ _ _ _ hl).1
      dsimp only
      by_cases h1 : lw = 1
      · rw [if_pos (show nI lw = (1 : Int32) by rw [h1]; rfl), if_neg (show ¬ enc (some u) = (-9 : Int32) from enc_ne (by omega)), if_pos h1, show enc (some u) = nI u from rfl, lightest2 hm hz hh hw _ (fun o => !decide (o = u)) (fun i hi => by rw [sh5 u (by omega) i (by omega)]; simp), cls]
      · rw [if_neg (show ¬ nI lw = (1 : Int32) from fun q => h1 ((nI_eq (by omega) (by decide)).mp q)), if_neg h1]
theorem lbut9 {m : Nat} {c : Nat → Nat} {z : Mem} (hm : m ≤ 5) (hz : z.1 9 1 = nI m) (hh : holds (z.1 24) m c) (hw : ∀ p, p < m → nw c p < 2 ^ 20) (bits : Int32) (e : Nat → Bool) (he : ∀ i, i < m → ((((bits >>> (nI i &&& 31)) &&& (1 : Int32)) = 0) ↔ e i = true)) (K : Int32 → Int32 → Mem → Option (Int32 × Mem)) :
    ∀ (d i n : Nat), i + d = m → d < n → fX2_lightestBut_9_L5 K bits n (enc (lb (nw c) e i)) (nI i) z = K (enc (lb (nw c) e m)) (nI m) z := by
  intro d
  induction d with
  | zero =>
    intro i n h1 h2
    obtain ⟨n, rfl⟩ : ∃ k, n = k + 1 := ⟨n - 1, by omega⟩
    have : i = m := by omega
    subst this
    rw [fX2_lightestBut_9_L5_s, hz, if_pos (nI_le (Nat.le_refl i) (by omega))]
  | succ d ih =>
    intro i n h1 h2
    obtain ⟨n, rfl⟩ : ∃ k, n = k + 1 := ⟨n - 1, by omega⟩
    have hi : i < m := by omega
    rw [← ih (i + 1) n (by omega) (by omega), fX2_lightestBut_9_L5_s, hz, if_neg (nI_ge hi (by omega)), jns]
    dsimp only
    have e1 : nI i + (1 : Int32) = nI (i + 1) := nI_1 i
    by_cases hb : e i = true
    · rw [if_pos ((he i hi).mpr hb), if_neg one0]
      cases hl : lb (nw c) e i with
      | none =>
        have : lb (nw c) e (i + 1) = some i := by unfold lb; rw [if_pos hb, hl]
        rw [this, if_pos (show enc none = (-9 : Int32) from rfl), lts, e1]
        rfl
      | some u =>
        have hu := (lb_some _ _ _ _ hl).1
        rw [if_neg (show ¬ enc (some u) = (-9 : Int32) from enc_ne (by omega)), noon9 hm hi hh, cls, show fX2_noonWeight_9 (enc (some u)) z = _ from noon9 hm (by omega) hh, cls]
        have w1 := hw i hi
        have w2 := hw u (by omega)
        by_cases l : nw c u ≤ nw c i
        · have : lb (nw c) e (i + 1) = some u := by unfold lb; rw [if_pos hb, hl]; dsimp only; rw [if_pos l]
          rw [this, if_pos (nI_le l (by omega)), lts, e1]
        · have : lb (nw c) e (i + 1) = some i := by unfold lb; rw [if_pos hb, hl]; dsimp only; rw [if_neg l]
          rw [this, if_neg (nI_ge (by omega) (by omega)), lts, e1]
          rfl
    · have : lb (nw c) e (i + 1) = lb (nw c) e i := by rw [show lb (nw c) e (i + 1) = _ from rfl]; unfold lb; rw [if_neg hb]; cases i <;> rfl
      rw [this, if_neg (fun q => hb ((he i hi).mp q)), if_pos rfl, lts, e1]
theorem lightest9 {m : Nat} {c : Nat → Nat} {z : Mem} (hm : m ≤ 5) (hz : z.1 9 1 = nI m) (hh : holds (z.1 24) m c) (hw : ∀ p, p < m → nw c p < 2 ^ 20) (bits : Int32) (e : Nat → Bool) (he : ∀ i, i < m → ((((bits >>> (nI i &&& 31)) &&& (1 : Int32)) = 0) ↔ e i = true)) : fX2_lightestBut_9 bits z = some (enc (lb (nw c) e m), z) := by
  unfold fX2_lightestBut_9
  exact lbut9 hm hz hh hw bits e he _ m 0 FU (by omega) (by unfold FU; omega)
theorem illbits9 {m il : Nat} {c : Nat → Nat} {z : Mem} (hm : m ≤ 5) (hil : il ≤ 9) (hz : z.1 9 1 = nI m) (h3 : z.1 9 3 = nI il) (hh : holds (z.1 24) m c) (hw : ∀ p, p < m → c (5 * p) < 2 ^ 20) (K : Int32 → Int32 → Mem → Option (Int32 × Mem)) :
    ∀ (d i n : Nat), i + d = m → d < n → fX2_illBits_9_L4 K n (nI (bsum (fun o => decide (c (5 * o) < 40 * il)) i)) (nI i) z = K (nI (bsum (fun o => decide (c (5 * o) < 40 * il)) m)) (nI m) z := by
  intro d
  induction d with
  | zero =>
    intro i n h1 h2
    obtain ⟨n, rfl⟩ : ∃ k, n = k + 1 := ⟨n - 1, by omega⟩
    have : i = m := by omega
    subst this
    rw [fX2_illBits_9_L4_s, hz, if_pos (nI_le (Nat.le_refl i) (by omega))]
  | succ d ih =>
    intro i n h1 h2
    obtain ⟨n, rfl⟩ : ∃ k, n = k + 1 := ⟨n - 1, by omega⟩
    have hi : i < m := by omega
    have e1 : nI i + (1 : Int32) = nI (i + 1) := nI_1 i
    rw [← ih (i + 1) n (by omega) (by omega), fX2_illBits_9_L4_s, hz, if_neg (nI_ge hi (by omega)), ill9 hm hi hil h3 hh (hw i hi), cls]
    by_cases g : c (5 * i) < 40 * il
    · have : bsum (fun o => decide (c (5 * o) < 40 * il)) (i + 1) = bsum (fun o => decide (c (5 * o) < 40 * il)) i + 2 ^ i := by
        show _ + (if decide (c (5 * i) < 40 * il) = true then 2 ^ i else 0) = _
        rw [if_pos (by simpa using g)]
      rw [this, if_pos g, if_neg one0, lts, or5 i (by omega) _ (bsum_lt _ i), lts, e1]
    · have : bsum (fun o => decide (c (5 * o) < 40 * il)) (i + 1) = bsum (fun o => decide (c (5 * o) < 40 * il)) i := by
        show _ + (if decide (c (5 * i) < 40 * il) = true then 2 ^ i else 0) = _
        rw [if_neg (by simpa using g), Nat.add_zero]
      rw [this, if_neg g, if_pos rfl, lts, e1]
theorem illB9 {m il : Nat} {c : Nat → Nat} {z : Mem} (hm : m ≤ 5) (hil : il ≤ 9) (hz : z.1 9 1 = nI m) (h3 : z.1 9 3 = nI il) (hh : holds (z.1 24) m c) (hw : ∀ p, p < m → c (5 * p) < 2 ^ 20) : fX2_illBits_9 z = some (nI (bsum (fun o => decide (c (5 * o) < 40 * il)) m), z) := by
  unfold fX2_illBits_9
  exact illbits9 hm hil hz h3 hh hw _ m 0 FU (by omega) (by unfold FU; omega)
theorem crowned9 {m il lw : Nat} {c : Nat → Nat} {z : Mem} (hm : m ≤ 5) (hil : il ≤ 9) (hlw : lw ≤ 2) (hz : z.1 9 1 = nI m) (h3 : z.1 9 3 = nI il) (hh : holds (z.1 24) m c) (hw : ∀ p, p < m → nw c p < 2 ^ 20) : fX2_crownedBy_9 (nI lw) z = some (enc (crw m il lw c), z) := by
  have hc : ∀ p, p < m → c (5 * p) < 2 ^ 20 := fun p hp => by have := hw p hp; unfold nw at this; omega
  unfold fX2_crownedBy_9 crw
  by_cases h2 : lw = 2
  · rw [if_pos (show nI lw = (2 : Int32) by rw [h2]; rfl), if_pos h2, illB9 hm hil hz h3 hh hc, cls, lightest9 hm hz hh hw _ (fun o => !decide (c (5 * o) < 40 * il)) (fun i hi => ?_), cls]
    have hl := bsum_lt (fun o => decide (c (5 * o) < 40 * il)) m
    have hp : 2 ^ m ≤ 2 ^ 5 := Nat.pow_le_pow_right (by decide) hm
    rw [bit5 _ (by omega) i (by omega), bsum_bit _ hi]
    by_cases g : c (5 * i) < 40 * il
    · rw [if_pos (by simpa using g)]; simp [g]
    · rw [if_neg (by simpa using g)]; simp [g]
  · rw [if_neg (show ¬ nI lw = (2 : Int32) from fun q => h2 ((nI_eq (by omega) (by decide)).mp q)), if_neg h2, lightest9 hm hz hh hw _ (fun _ => true) (fun i hi => by simp [z5 i (by omega)]), cls]
    cases hl : lb (nw c) (fun _ => true) m with
    | none =>
      by_cases h1 : nI lw = (1 : Int32)
      · rw [if_pos h1, if_pos (show enc none = (-9 : Int32) from rfl)]
      · rw [if_neg h1]
    | some u =>
      have hu := (lb_some _ _ _ _ hl).1
      dsimp only
      by_cases h1 : lw = 1
      · rw [if_pos (show nI lw = (1 : Int32) by rw [h1]; rfl), if_neg (show ¬ enc (some u) = (-9 : Int32) from enc_ne (by omega)), if_pos h1, show enc (some u) = nI u from rfl, lightest9 hm hz hh hw _ (fun o => !decide (o = u)) (fun i hi => by rw [sh5 u (by omega) i (by omega)]; simp), cls]
      · rw [if_neg (show ¬ nI lw = (1 : Int32) from fun q => h1 ((nI_eq (by omega) (by decide)).mp q)), if_neg h1]
theorem lighter9 {a b o p : Nat} (ha : a < 2 ^ 20) (hb : b < 2 ^ 20) (ho : o < 2 ^ 20) (hp : p < 2 ^ 20) (z : Mem) : fX9_isLighter (nI a) (nI o) (nI b) (nI p) z = some (if a < b ∨ (a = b ∧ o < p) then 1 else 0, z) := by
  unfold fX9_isLighter
  by_cases h1 : a < b
  · rw [if_pos (nI_lt h1 (by omega)), if_pos (Or.inl h1)]
  · rw [if_neg (nI_nlt (by omega) (by omega))]
    by_cases h2 : a = b
    · rw [if_pos (by rw [h2])]
      by_cases h3 : o < p
      · rw [if_neg (nI_ge h3 (by omega)), if_pos (Or.inr ⟨h2, h3⟩)]
      · rw [if_pos (nI_le (by omega) (by omega)), if_neg (by omega)]
    · rw [if_neg (fun q => h2 ((nI_eq (by omega) (by omega)).mp q)), if_neg (by omega)]
theorem add0 (x : Int32) : x + (0 : Int32) = x := Int32.add_zero x
theorem ahead9 {m il lw p : Nat} {c : Nat → Nat} {z : Mem} (hm : m ≤ 5) (hil : il ≤ 9) (hlw : lw ≤ 2) (hp : p < m) (hz : z.1 25 6 = nI m) (h3 : z.1 25 9 = nI il) (hh : holds (z.1 27) m c) (hw : ∀ p, p < m → nw c p < 2 ^ 20) (K : Int32 → Int32 → Mem → Option (Int32 × Mem)) :
    ∀ (d i n : Nat), i + d = m → d < n → fX9_crownBy_L15 K (nI lw) (nI p) n (nI (cnt (ahd il lw c p) i)) (nI i) z = K (nI (cnt (ahd il lw c p) m)) (nI m) z := by
  have hc : ∀ p, p < m → c (5 * p) < 2 ^ 20 := fun p hp => by have := hw p hp; unfold nw at this; omega
  intro d
  induction d with
  | zero =>
    intro i n h1 h2
    obtain ⟨n, rfl⟩ : ∃ k, n = k + 1 := ⟨n - 1, by omega⟩
    have : i = m := by omega
    subst this
    rw [fX9_crownBy_L15_s, hz, if_pos (nI_le (Nat.le_refl i) (by omega))]
  | succ d ih =>
    intro i n h1 h2
    obtain ⟨n, rfl⟩ : ∃ k, n = k + 1 := ⟨n - 1, by omega⟩
    have hi : i < m := by omega
    have e1 : nI i + (1 : Int32) = nI (i + 1) := nI_1 i
    have cn : cnt (ahd il lw c p) (i + 1) = cnt (ahd il lw c p) i + (if ahd il lw c p i = true then 1 else 0) := rfl
    rw [← ih (i + 1) n (by omega) (by omega), fX9_crownBy_L15_s, hz, if_neg (nI_ge hi (by omega)), jns, cn]
    dsimp only
    have no : ahd il lw c p i = false → nI (cnt (ahd il lw c p) i + (if ahd il lw c p i = true then 1 else 0)) = nI (cnt (ahd il lw c p) i) := fun h => by rw [h, if_neg (by decide), Nat.add_zero]
    have body : elig il lw c i = true → ¬ i = p → (if (1 : Int32) = 0 then lt (nI (cnt (ahd il lw c p) i) + (0 : Int32)) (fun x3_33 => lt (nI i + (1 : Int32)) (fun x4_34 => fX9_crownBy_L15 K (nI lw) (nI p) n x3_33 x4_34 z)) else cl (fX9_noonOf (nI i) z) (fun r_35 z_36 => cl (fX9_noonOf (nI p) z_36) (fun r_38 z_39 => cl (fX9_isLighter r_35 (nI i) r_38 (nI p) z_39) (fun r_41 z_42 => (if r_41 = 0 then lt ((nI (cnt (ahd il lw c p) i) + (0 : Int32)) : Int32) (fun x3_45 => lt (nI i + (1 : Int32)) (fun x4_46 => (fX9_crownBy_L15 K (nI lw) (nI p) n x3_45 x4_46 z_42))) else lt ((nI (cnt (ahd il lw c p) i) + (1 : Int32)) : Int32) (fun x3_47 => lt (nI i + (1 : Int32)) (fun x4_48 => (fX9_crownBy_L15 K (nI lw) (nI p) n x3_47 x4_48 z_42)))))))) = fX9_crownBy_L15 K (nI lw) (nI p) n (nI (cnt (ahd il lw c p) i + (if ahd il lw c p i = true then 1 else 0))) (nI (i + 1)) z := by
      intro hel hne
      have w1 := hw i hi
      have w2 := hw p hp
      rw [if_neg one0, noonM hm hi hh, cls, noonM hm hp hh, cls, lighter9 w1 w2 (by omega) (by omega), cls]
      by_cases g : nw c i < nw c p ∨ (nw c i = nw c p ∧ i < p)
      · have ht : ahd il lw c p i = true := by unfold ahd; rw [hel, (ltb_iff _ _ _).mpr g]; simp [hne]
        rw [if_pos g, if_neg one0, lts, lts, e1, if_pos ht, show nI (cnt (ahd il lw c p) i) + (1 : Int32) = _ from nI_1 _]
      · have hf : ahd il lw c p i = false := by
          unfold ahd
          have : ltb (nw c) i p = false := by
            by_cases y : ltb (nw c) i p = true
            · exact absurd ((ltb_iff _ _ _).mp y) g
            · simpa using y
          rw [this]; simp
        rw [if_neg g, if_pos rfl, lts, lts, e1, no hf, add0]
    by_cases e : i = p
    · have hf : ahd il lw c p i = false := by unfold ahd; simp [e]
      rw [if_pos (by rw [e]), if_pos rfl, lts, lts, e1, no hf, add0]
    · rw [if_neg (fun q => e ((nI_eq (by omega) (by omega)).mp q))]
      by_cases l2 : lw < 2
      · rw [if_pos (show nI lw < (2 : Int32) from nI_lt (b := 2) l2 (by decide))]
        exact body (by unfold elig; simp [l2]) e
      · rw [if_neg (show ¬ nI lw < (2 : Int32) from nI_nlt (b := 2) (by omega) (by omega)), illM hm hi hil h3 hh (hc i hi), cls]
        by_cases g : c (5 * i) < 40 * il
        · have hf : ahd il lw c p i = false := by unfold ahd elig; simp [g, l2]
          rw [if_pos g, if_neg one0, if_pos rfl, lts, lts, e1, no hf, add0]
        · rw [if_neg g, if_pos rfl]
          exact body (by unfold elig; simp [g]) e
theorem crown9 {m il lw : Nat} {c : Nat → Nat} {z : Mem} (hm : m ≤ 5) (hil : il ≤ 9) (hlw : lw ≤ 2) (hz : z.1 25 6 = nI m) (h3 : z.1 25 9 = nI il) (hh : holds (z.1 27) m c) (hw : ∀ p, p < m → nw c p < 2 ^ 20) : fX9_crownBy (nI lw) z = some (enc (crw m il lw c), z) := by
  have hc : ∀ p, p < m → c (5 * p) < 2 ^ 20 := fun p hp => by have := hw p hp; unfold nw at this; omega
  have main : ∀ (d i n : Nat), i + d = m → d < n → fX9_crownBy_L2 (fun (_ : Int32) (z_2 : Mem) => some ((-9 : Int32), z_2)) (nI lw) n (nI i) z = some (enc (fnd (cndQ m il lw c) d i), z) := by
    intro d
    induction d with
    | zero =>
      intro i n h1 h2
      obtain ⟨n, rfl⟩ : ∃ k, n = k + 1 := ⟨n - 1, by omega⟩
      have : i = m := by omega
      subst this
      rw [fX9_crownBy_L2_s, hz, if_pos (nI_le (Nat.le_refl i) (by omega))]
      rfl
    | succ d ih =>
      intro i n h1 h2
      obtain ⟨n, rfl⟩ : ∃ k, n = k + 1 := ⟨n - 1, by omega⟩
      have hi : i < m := by omega
      have e1 : nI i + (1 : Int32) = nI (i + 1) := nI_1 i
      have ihh := ih (i + 1) n (by omega) (by omega)
      rw [fX9_crownBy_L2_s, hz, if_neg (nI_ge hi (by omega)), show (0 : Int32) = nI (cnt (ahd il lw c i) 0) from rfl]
      have A := fun K => ahead9 (lw := lw) hm hil hlw hi hz h3 hh hw K m 0 FU (by omega) (by unfold FU; omega)
      rw [show nI (cnt (ahd il lw c i) 0) = nI 0 from rfl] at A ⊢
      rw [A, jns]
      dsimp only
      have hcm : cnt (ahd il lw c i) m < 2 ^ 20 := by
        have : ∀ k, cnt (ahd il lw c i) k ≤ k := by
          intro k
          induction k with
          | zero => exact Nat.le_refl 0
          | succ k ih => unfold cnt; split <;> omega
        have := this m
        omega
      have go : ∀ t : Nat, t = (if lw = 1 then 1 else 0) → (if nI (cnt (ahd il lw c i) m) = nI t then (if nI lw < (2 : Int32) then some (nI i, z) else cl (fX9_isIll (nI i) z) (fun r_18 z_19 => (if r_18 = 0 then some (nI i, z_19) else lt (nI i + (1 : Int32)) (fun x2_22 => (fX9_crownBy_L2 (fun (_ : Int32) (z_2 : Mem) => some ((-9 : Int32), z_2)) (nI lw) n x2_22 z_19))))) else lt (nI i + (1 : Int32)) (fun x2_16 => (fX9_crownBy_L2 (fun (_ : Int32) (z_2 : Mem) => some ((-9 : Int32), z_2)) (nI lw) n x2_16 z))) = some (enc (fnd (cndQ m il lw c) (d + 1) i), z) := by
        intro t ht
        have ht1 : t ≤ 1 := by rw [ht]; split <;> omega
        by_cases g : cnt (ahd il lw c i) m = t
        · rw [if_pos (by rw [g])]
          by_cases l2 : lw < 2
          · have q : cndQ m il lw c i = true := by unfold cndQ elig; rw [← ht, g]; simp [l2]
            rw [if_pos (show nI lw < (2 : Int32) from nI_lt (b := 2) l2 (by decide))]
            unfold fnd
            rw [if_pos q]
            rfl
          · rw [if_neg (show ¬ nI lw < (2 : Int32) from nI_nlt (b := 2) (by omega) (by omega)), illM hm hi hil h3 hh (hc i hi), cls]
            by_cases g2 : c (5 * i) < 40 * il
            · have q : ¬ cndQ m il lw c i = true := by unfold cndQ elig; simp [g2, l2]
              rw [if_pos g2, if_neg one0, lts, e1, ihh]
              show _ = some (enc (if cndQ m il lw c i = true then some i else fnd (cndQ m il lw c) d (i + 1)), z)
              rw [if_neg q]
            · have q : cndQ m il lw c i = true := by unfold cndQ elig; rw [← ht, g]; simp [g2]
              rw [if_neg g2, if_pos rfl]
              unfold fnd
              rw [if_pos q]
              rfl
        · have q : ¬ cndQ m il lw c i = true := by unfold cndQ; rw [← ht]; simp [g]
          rw [if_neg (fun r => g ((nI_eq (by omega) (by omega)).mp r)), lts, e1, ihh]
          show _ = some (enc (if cndQ m il lw c i = true then some i else fnd (cndQ m il lw c) d (i + 1)), z)
          rw [if_neg q]
      by_cases h1' : lw = 1
      · rw [if_pos (show nI lw = (1 : Int32) by rw [h1']; rfl)]
        exact go 1 (by rw [if_pos h1'])
      · rw [if_neg (show ¬ nI lw = (1 : Int32) from fun q => h1' ((nI_eq (by omega) (by decide)).mp q))]
        exact go 0 (by rw [if_neg h1'])
  unfold fX9_crownBy
  rw [← crw_eq hlw]
  exact main m 0 FU (by omega) (by unfold FU; omega)
theorem ok_crown : Ok fX8_crown fX9_crown := by
  refine ok_read fun k S z y hk hG hC hR => ?_
  obtain ⟨hm, hb, hil, hlw, hcb⟩ := hG.2.1
  obtain ⟨c1, c2, c3, c4, c5'⟩ := hC.2.1
  obtain ⟨r1, r2, r3, r4, r5⟩ := hR.2.1
  have hw : ∀ p, p < S.1 1 → nw (S.2.1 1) p < 2 ^ 20 := fun p hp => by have := hcb.nw (by omega) hp; omega
  refine ⟨enc (crw (S.1 1) (S.1 3) (S.1 4) (S.2.1 1)), ?_, ?_⟩
  · unfold fX8_crown
    rw [c4, crowned2 hm hil hlw c1 c3 c5' hw, cls]
  · unfold fX9_crown
    rw [r4, crown9 hm hil hlw r1 r3 r5 hw, cls]
