theorem fill23 (K : Int32 → Mem → Option (Unit × Mem)) : ∀ (d j n : Nat) (z : Mem), j + d = 2197 → d < n → (∀ i, i < j → z.2 23 i = lN 0) → ∃ y, fJ7_fill_d0a16_23_L6 K (0 : Int64) n (nI j) z = K (nI 2197) y ∧ Ar 23 y (fun _ => 0) ∧ O23 z y := by
  intro d
  induction d with
  | zero =>
    intro j n z h1 h2 h3
    obtain ⟨n, rfl⟩ : ∃ k, n = k + 1 := ⟨n - 1, by omega⟩
    obtain rfl : j = 2197 := by omega
    exact ⟨z, by rw [fJ7_fill_d0a16_23_L6_s, if_pos (show (2197 : Int32) ≤ nI 2197 by decide)], h3, O23.rf z⟩
  | succ d ih =>
    intro j n z h1 h2 h3
    obtain ⟨n, rfl⟩ : ∃ k, n = k + 1 := ⟨n - 1, by omega⟩
    obtain ⟨y, y1, y2, y3⟩ := ih (j + 1) n (sL z 23 j (lN 0)) (by omega) (by omega) (fun i hi => by
      rw [sL2, if_pos rfl, upL1]
      by_cases e : i = j
      · rw [if_pos e]
      · rw [if_neg e]; exact h3 i (by omega))
    refine ⟨y, ?_, y2, (O23.sL z _ _).tr y3⟩
    rw [fJ7_fill_d0a16_23_L6_s, if_neg (show ¬ (2197 : Int32) ≤ nI j from nI_ge (b := 2197) (by omega) (by decide)), rgs (by omega) (by decide), lts, lts, clamp (by omega), show nI j + (1 : Int32) = nI (j + 1) from nI_1 j]
    exact y1
theorem strN : ∀ i, i < 3 → strI i = nI (13 ^ i) := by decide
theorem p13 : ∀ i, i < 3 → 1 ≤ 13 ^ i ∧ 13 ^ i ≤ 169 := by decide
/-- the strides of those that eat -/
def sS13 (m : Nat) : Nat := sm m (fun i => 13 ^ i)
theorem end_L {m : Nat} (hm : m ≤ 3) (K : Int32 → Int32 → Mem → Option (Int64 × Mem)) (z : Mem) : ∀ (d i n e : Nat), i + d = m → d < n → fX3_fittingMeals_L65 K (nI m) n (nI (e + 3 * sS13 i)) (nI i) z = K (nI (e + 3 * sS13 m)) (nI m) z := by
  intro d
  induction d with
  | zero =>
    intro i n e h1 h2
    obtain ⟨n, rfl⟩ : ∃ k, n = k + 1 := ⟨n - 1, by omega⟩
    obtain rfl : i = m := by omega
    rw [fX3_fittingMeals_L65_s, if_pos (nI_le (Nat.le_refl _) (by omega))]
  | succ d ih =>
    intro i n e h1 h2
    obtain ⟨n, rfl⟩ : ∃ k, n = k + 1 := ⟨n - 1, by omega⟩
    have es : e + 3 * sS13 i + 3 * 13 ^ i = e + 3 * sS13 (i + 1) := by
      show _ = e + 3 * (sS13 i + 13 ^ i)
      omega
    rw [fX3_fittingMeals_L65_s, if_neg (nI_ge (by omega) (by omega)), rgs (by omega) (by decide), lts, clamp (by omega), strN i (by omega), k3, nI_add, lts, lts, show nI i + (1 : Int32) = nI (i + 1) from nI_1 i, es]
    exact ih (i + 1) n e (by omega) (by omega)
/-- how far the ways reach, while the first i have eaten -/
def top (m t i : Nat) : Nat := be m t i 0 + 13 * be m t i 1 + 169 * be m t i 2
theorem top_s : ∀ m, m < 4 → ∀ t, t < 4 → ∀ i, i < m → top m t i + 3 * 13 ^ i ≤ 3 * (t + 1) * sS13 m := by decide
theorem be_i : ∀ m, m < 4 → ∀ t, t < 4 → ∀ i, i < m → be m t i i ≤ 9 := by decide
theorem eat_L {m t : Nat} {c rl : Nat → Nat} (hm : m ≤ 3) (ht : t ≤ 3) (K : Int32 → Mem → Option (Int64 × Mem)) : ∀ (d i n : Nat) (z : Mem), i + d = m → d < n → Ar 23 z (DD i (Wn c rl m t)) → ∃ y, fX3_fittingMeals_L91 K (nI m) (nI (1 + 3 * (t + 1) * sS13 m)) n (nI i) z = K (nI m) y ∧ O23 z y ∧ Ar 23 y (DD m (Wn c rl m t)) := by
  have e4 : ∀ m, m < 4 → ∀ t, t < 4 → 3 * (t + 1) * sS13 m ≤ 2196 := by decide
  have he := e4 m (by omega) t (by omega)
  intro d
  induction d with
  | zero =>
    intro i n z h1 h2 h3
    obtain ⟨n, rfl⟩ : ∃ k, n = k + 1 := ⟨n - 1, by omega⟩
    obtain rfl : i = m := by omega
    exact ⟨z, by rw [fX3_fittingMeals_L91_s, if_pos (nI_le (Nat.le_refl _) (by omega))], O23.rf z, h3⟩
  | succ d ih =>
    intro i n z h1 h2 h3
    obtain ⟨n, rfl⟩ : ∃ k, n = k + 1 := ⟨n - 1, by omega⟩
    have hi : i < m := by omega
    obtain ⟨p1, p2⟩ := p13 i (by omega)
    obtain ⟨y, y1, y2, y3⟩ := letE p1 p2 (by omega) (by omega) h3 (e := 1 + 3 * (t + 1) * sS13 m)
    have su := Sup_DD ht hm (Sup_W c rl hm t (by omega)) i (by omega)
    have b9 := be_i m (by omega) t (by omega) i hi
    have ts := top_s m (by omega) t (by omega) i hi
    have y4 : Ar 23 y (DD (i + 1) (Wn c rl m t)) := y3.eq fun j hj => by
      refine eat_eq p1 (fun x hx => ?_) (fun x hx => ?_) j
      · have := su x hx
        obtain rfl | rfl | rfl : i = 0 ∨ i = 1 ∨ i = 2 := by omega
        · rw [Nat.pow_zero, Nat.div_one]; omega
        · rw [Nat.pow_one]; omega
        · rw [show 13 ^ 2 = 169 from rfl]; omega
      · have := su x hx
        unfold top at ts
        omega
    obtain ⟨w, w1, w2, w3⟩ := ih (i + 1) n y (by omega) (by omega) y4
    refine ⟨w, ?_, y2.tr w2, w3⟩
    rw [fX3_fittingMeals_L91_s, if_neg (nI_ge hi (by omega)), rgs (by omega) (by decide), lts, clamp (by omega), strN i (by omega), y1, cls, lts, show nI i + (1 : Int32) = nI (i + 1) from nI_1 i]
    exact w1
theorem mon_L {m n8 : Nat} {c rl : Nat → Nat} (hm : m ≤ 3) (h8 : n8 ≤ 4) (hrl : ∀ t, t < n8 → rl t ≤ 4) (hw : ∀ i, i < m → nw c i < 2 ^ 20) (K : Int32 → Int32 → Mem → Option (Int64 × Mem)) : ∀ (d t n : Nat) (z : Mem), t + d = n8 → d < n → z.1 7 3 = nI n8 → (∀ t, t < n8 → z.1 21 t = nI (rl t)) → (∀ i, i < m → z.1 22 i = nI (nw c i)) → Ar 23 z (Wn c rl m t) → ∃ y, fX3_fittingMeals_L53 K (nI m) n (nI (1 + 3 * t * sS13 m)) (nI t) z = K (nI (1 + 3 * n8 * sS13 m)) (nI n8) y ∧ O23 z y ∧ Ar 23 y (Wn c rl m n8) := by
  intro d
  induction d with
  | zero =>
    intro t n z h1 h2 h3 h4 h5 h6
    obtain ⟨n, rfl⟩ : ∃ k, n = k + 1 := ⟨n - 1, by omega⟩
    obtain rfl : t = n8 := by omega
    exact ⟨z, by rw [fX3_fittingMeals_L53_s, h3, if_pos (nI_le (Nat.le_refl _) (by omega))], O23.rf z, h6⟩
  | succ d ih =>
    intro t n z h1 h2 h3 h4 h5 h6
    obtain ⟨n, rfl⟩ : ∃ k, n = k + 1 := ⟨n - 1, by omega⟩
    have ht : t < n8 := by omega
    have e4 : ∀ m, m < 4 → ∀ t, t < 4 → 3 * (t + 1) * sS13 m ≤ 2196 := by decide
    have he := e4 m (by omega) t (by omega)
    have e5 : 1 + 3 * t * sS13 m + 3 * sS13 m = 1 + 3 * (t + 1) * sS13 m := by rw [Nat.mul_add, Nat.mul_one, Nat.add_mul, Nat.add_assoc]
    rw [fX3_fittingMeals_L53_s, h3, if_neg (nI_ge ht (by omega))]
    generalize hK2 : (fun (x3_27 : Int32) (x5_28 : Int32) (z_26 : Mem) => (fX3_fittingMeals_L91 (fun (x5_31 : Int32) (z_30 : Mem) => rg (nI t) 4 (lt ((z_30.1 21 (nI t).toNatClampNeg) : Int32) (fun a_33 => cl (fX3_strikeOut a_33 (nI m) x3_27 z_30) (fun _ z_35 => lt (nI t + (1 : Int32)) (fun x4_37 => (fX3_fittingMeals_L53 K (nI m) n x3_27 x4_37 z_35)))))) (nI m) x3_27 FU (0 : Int32) z_26)) = K2
    have g1 := end_L hm K2 z m 0 FU (1 + 3 * t * sS13 m) (by omega) (by unfold FU; omega)
    have g1' : fX3_fittingMeals_L65 K2 (nI m) FU (nI (1 + 3 * t * sS13 m)) (0 : Int32) z = K2 (nI (1 + 3 * (t + 1) * sS13 m)) (nI m) z := by rw [← e5]; exact g1
    rw [g1', ← hK2]
    dsimp only
    generalize hK3 : (fun (x5_31 : Int32) (z_30 : Mem) => rg (nI t) 4 (lt ((z_30.1 21 (nI t).toNatClampNeg) : Int32) (fun a_33 => cl (fX3_strikeOut a_33 (nI m) (nI (1 + 3 * (t + 1) * sS13 m)) z_30) (fun _ z_35 => lt (nI t + (1 : Int32)) (fun x4_37 => (fX3_fittingMeals_L53 K (nI m) n (nI (1 + 3 * (t + 1) * sS13 m)) x4_37 z_35)))))) = K3
    obtain ⟨y, y1, y2, y3⟩ := eat_L (c := c) (rl := rl) hm (by omega) K3 m 0 FU z (by omega) (by unfold FU; omega) h6
    have y1' : fX3_fittingMeals_L91 K3 (nI m) (nI (1 + 3 * (t + 1) * sS13 m)) FU (0 : Int32) z = _ := y1
    rw [y1', ← hK3]
    dsimp only
    have hB : ∀ x, DD m (Wn c rl m t) x < 2 ^ 63 := fun x => by
      have a1 := DD_le (W_le c rl hm t) m x
      have a2 : 4 ^ m * 64 ^ t ≤ 4 ^ 3 * 64 ^ 3 := Nat.mul_le_mul (Nat.pow_le_pow_right (by decide) hm) (Nat.pow_le_pow_right (by decide) (by omega))
      have : (4 : Nat) ^ 3 * 64 ^ 3 < 2 ^ 63 := by decide
      omega
    obtain ⟨w, w1, w2, w3⟩ := strike (r := rl t) (e := 1 + 3 * (t + 1) * sS13 m) hm (by omega) (hrl t ht) hw (1 + 3 * (t + 1) * sS13 m) 0 FU y _ (by omega) (by unfold FU; omega) y3 hB (by rw [y2.1]; exact h5)
    have w1' : fX3_strikeOut (nI (rl t)) (nI m) (nI (1 + 3 * (t + 1) * sS13 m)) y = some ((), w) := w1
    have e21 : y.1 21 t = nI (rl t) := by rw [y2.1]; exact h4 t ht
    rw [rgs (by omega) (by decide), lts, clamp (by omega), e21, w1', cls, lts, show nI t + (1 : Int32) = nI (t + 1) from nI_1 t]
    have su := Sup_W c rl hm (t + 1) (by omega)
    have su' := Sup_DD (t := t) (by omega) hm (Sup_W c rl hm t (by omega)) m (Nat.le_refl m)
    have tp4 : ∀ m, m < 4 → ∀ t, t < 4 → top m t m ≤ 3 * (t + 1) * sS13 m := by decide
    have w4 : Ar 23 w (Wn c rl m (t + 1)) := w3.eq fun j hj => by
      show _ = if rul c m j (rl t) = true then DD m (Wn c rl m t) j else 0
      by_cases q : 0 ≤ j ∧ j < 1 + 3 * (t + 1) * sS13 m
      · rw [if_pos q]
      · rw [if_neg q]
        have z0 : DD m (Wn c rl m t) j = 0 := by
          by_cases g : DD m (Wn c rl m t) j = 0
          · exact g
          · have s1 := su' j g
            have s2 := tp4 m (by omega) t (by omega)
            unfold top at s2
            omega
        rw [z0]
        split <;> rfl
    have o : O23 z w := y2.tr w2
    obtain ⟨v, v1, v2, v3⟩ := ih (t + 1) n w (by omega) (by omega) (by rw [o.1]; exact h3) (by rw [o.1]; exact h4) (by rw [o.1]; exact h5) w4
    exact ⟨v, v1, o.tr v2, v3⟩
theorem wts_L {m : Nat} {c : Nat → Nat} (hm : m ≤ 3) (K : Int32 → Mem → Option (Int64 × Mem)) : ∀ (d i n : Nat) (z : Mem), i + d = m → d < n → holds (z.1 11) m c → (∀ j, j < i → z.1 22 j = nI (nw c j)) → ∃ y, fX3_fittingMeals_L11 K (nI m) n (nI i) z = K (nI m) y ∧ (∀ j, j < m → y.1 22 j = nI (nw c j)) ∧ Out [22] z y := by
  intro d
  induction d with
  | zero =>
    intro i n z h1 h2 h3 h4
    obtain ⟨n, rfl⟩ : ∃ k, n = k + 1 := ⟨n - 1, by omega⟩
    obtain rfl : i = m := by omega
    exact ⟨z, by rw [fX3_fittingMeals_L11_s, if_pos (nI_le (Nat.le_refl _) (by omega))], h4, Out.rf _ z⟩
  | succ d ih =>
    intro i n z h1 h2 h3 h4
    obtain ⟨n, rfl⟩ : ∃ k, n = k + 1 := ⟨n - 1, by omega⟩
    have hi : i < m := by omega
    obtain ⟨y, y1, y2, y3⟩ := ih (i + 1) n (sI z 22 i (nI (nw c i))) (by omega) (by omega) h3 (fun j hj => by
      show upd (z.1 22) i _ j = _
      rw [up1]
      by_cases e : j = i
      · rw [if_pos e, e]
      · rw [if_neg e]; exact h4 j (by omega))
    refine ⟨y, ?_, y2, (Out.sI [22] z _ _ (by decide)).tr y3⟩
    rw [fX3_fittingMeals_L11_s, if_neg (nI_ge hi (by omega)), noon2 (m := m) (by omega) hi h3, cls, rgs (by omega) (by decide), lts, lts, clamp (by omega), show nI i + (1 : Int32) = nI (i + 1) from nI_1 i, y1]
theorem O23.out {z y : Mem} (h : O23 z y) : Out [22, 23] z y := fun q hq => ⟨by rw [h.1], h.2 q (fun e => hq (by rw [e]; decide))⟩
theorem line8 {S : AS} {k : Nat} {z : Mem} (hk : k ≤ 512) (hG : G k S) (hC : C S z) (h1 : 1 ≤ S.1 1) (h3 : S.1 1 ≤ 3) : ∃ y, fX3_fittingMeals z = some (lN (sm 2197 (Wn (S.2.1 1) (S.2.1 9) (S.1 1) (S.1 8))), y) ∧ Out [22, 23] z y := by
  obtain ⟨c1, c2, c3, c4, c5, c6, c7, c8⟩ := hC
  obtain ⟨g1, g2, g3, g4, g5, g6, g7⟩ := hG
  have hw : ∀ i, i < S.1 1 → nw (S.2.1 1) i < 2 ^ 20 := fun i hi => by
    have := g2.2.2.2.2.1 i hi
    unfold nw
    omega
  unfold fX3_fittingMeals fX2_size_2
  rw [cls, c2.1, if_neg (show ¬ (3 : Int32) < nI (S.1 1) from nI_nlt (a := 3) h3 (by decide)), lts]
  generalize hK : (fun (x3_7 : Int32) (z_6 : Mem) => cl (fJ7_fill_d0a16_23 (0 : Int64) z_6) (fun _ z_9 => rg (0 : Int32) 2197 (lt (sL z_9 23 (0 : Int32).toNatClampNeg (1 : Int64)) (fun z_12 => (fX3_fittingMeals_L53 (fun (x3_15 : Int32) (x4_16 : Int32) (z_14 : Mem) => cl (fX3_sumOfWays x3_15 z_14) (fun r_17 z_18 => some (r_17, z_18))) (nI (S.1 1)) FU (1 : Int32) (0 : Int32) z_12))))) = K
  obtain ⟨y, y1, y2, y3⟩ := wts_L (c := S.2.1 1) h3 K (S.1 1) 0 FU z (by omega) (by unfold FU; omega) c2.2.2.2.2 (fun j hj => absurd hj (by omega))
  have y1' : fX3_fittingMeals_L11 K (nI (S.1 1)) FU (0 : Int32) z = _ := y1
  rw [y1', ← hK]
  dsimp only
  obtain ⟨w, w1, w2, w3⟩ := fill23 (fun (x3_3 : Int32) (z_2 : Mem) => some ((), z_2)) 2197 0 FU y (by decide) (by unfold FU; decide) (fun i hi => absurd hi (by omega))
  have w1' : fJ7_fill_d0a16_23 (0 : Int64) y = some ((), w) := w1
  rw [w1', cls, show ∀ k : Option (Int64 × Mem), rg (0 : Int32) 2197 k = k from fun k => rgs (n := 0) (by decide) (by decide) k, lts]
  have A0 : Ar 23 (sL w 23 (0 : Int32).toNatClampNeg (1 : Int64)) (Wn (S.2.1 1) (S.2.1 9) (S.1 1) 0) := w2.put 0 1
  have O0 : O23 w (sL w 23 (0 : Int32).toNatClampNeg (1 : Int64)) := O23.sL w _ _
  generalize sL w 23 (0 : Int32).toNatClampNeg (1 : Int64) = v at A0 O0
  have e1 : v.1 = y.1 := by rw [O0.1, w3.1]
  obtain ⟨u, u1, u2, u3⟩ := mon_L (c := S.2.1 1) (rl := S.2.1 9) h3 g7.1 g7.2 hw (fun (x3_15 : Int32) (x4_16 : Int32) (z_14 : Mem) => cl (fX3_sumOfWays x3_15 z_14) (fun r_17 z_18 => some (r_17, z_18))) (S.1 8) 0 FU v (by omega) (by have := g7.1; unfold FU; omega) (by rw [e1, (y3 7 (by decide)).1]; exact c7.1) (by rw [e1, (y3 21 (by decide)).1]; exact c7.2) (by rw [e1]; exact y2) A0
  have e0 : 1 + 3 * 0 * sS13 (S.1 1) = 1 := by rw [Nat.mul_zero, Nat.zero_mul]
  rw [e0] at u1
  have u1' : fX3_fittingMeals_L53 (fun (x3_15 : Int32) (x4_16 : Int32) (z_14 : Mem) => cl (fX3_sumOfWays x3_15 z_14) (fun r_17 z_18 => some (r_17, z_18))) (nI (S.1 1)) FU (1 : Int32) (0 : Int32) v = _ := u1
  rw [u1']
  have e4 : ∀ m, m < 4 → ∀ t, t < 5 → 3 * t * sS13 m ≤ 2196 := by decide
  have he := e4 (S.1 1) (by omega) (S.1 8) (by have := g7.1; omega)
  have sw : fX3_sumOfWays (nI (1 + 3 * S.1 8 * sS13 (S.1 1))) u = some (lN (sm (1 + 3 * S.1 8 * sS13 (S.1 1)) (Wn (S.2.1 1) (S.2.1 9) (S.1 1) (S.1 8))), u) := sumW (by omega) u3 (1 + 3 * S.1 8 * sS13 (S.1 1)) 0 FU (by omega) (by unfold FU; omega)
  rw [sw, cls]
  refine ⟨u, ?_, (y3.more (by decide)).tr ((w3.out.tr O0.out).tr u2.out)⟩
  have su := Sup_W (S.2.1 1) (S.2.1 9) h3 (S.1 8) (by have := g7.1; omega)
  have tp4 : ∀ m, m < 4 → ∀ t, t < 5 → top m t 0 ≤ 3 * t * sS13 m := by decide
  rw [sm_tail (a := 1 + 3 * S.1 8 * sS13 (S.1 1)) (b := 2197) (by omega) (fun j a b => by
    by_cases g : Wn (S.2.1 1) (S.2.1 9) (S.1 1) (S.1 8) j = 0
    · exact g
    · have s1 := su j g
      have s2 := tp4 (S.1 1) (by omega) (S.1 8) (by have := g7.1; omega)
      unfold top at s2
      omega)]
