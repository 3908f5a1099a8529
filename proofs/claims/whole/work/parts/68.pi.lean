/-! ===== which weight may be the false one ===== -/
theorem nI_or (a b : Nat) : nI a ||| nI b = nI (a ||| b) := by
  apply Int32.toBitVec_inj.mp
  apply BitVec.eq_of_getLsbD_eq
  intro i hi
  show (BitVec.ofNat 32 a ||| BitVec.ofNat 32 b).getLsbD i = (BitVec.ofNat 32 (a ||| b)).getLsbD i
  rw [BitVec.getLsbD_or, BitVec.getLsbD_ofNat, BitVec.getLsbD_ofNat, BitVec.getLsbD_ofNat, Nat.testBit_or]
  simp [hi]
theorem not9 : ∀ o, o < 512 → (511 : Int32) &&& (nI o ^^^ (-1 : Int32)) = nI (511 - o) := by decide +kernel
theorem not9b : ∀ o, o < 512 → ∀ k, k < 9 → ((511 - o) / 2 ^ k % 2 = 1 ↔ ¬ o / 2 ^ k % 2 = 1) := by decide +kernel
theorem or9 : ∀ i, i < 9 → ∀ b, b < 2 ^ i → nI b ||| ((1 : Int32) <<< (nI i &&& 31)) = nI (b + 2 ^ i) := by decide +kernel
theorem or90 : ∀ b, b < 512 → nI b ||| (0 : Int32) = nI b := by decide +kernel
theorem f511 : ∀ i, i < 9 → (511).testBit i = true := by decide
theorem tb (a k : Nat) : a.testBit k = decide (a / 2 ^ k % 2 = 1) := Nat.testBit_eq_decide_div_mod_eq
def sbN (v a b c : Nat) : Nat := if c = 0 then 511 - (a ||| b) else if (if c = 1 then 1 else 0) = v then a else b
/-- what a weighing must have shown, with the bits of both sides -/
def rs (x y v : Nat) : Nat := if x = 0 ∧ y = 0 then 0 else if x = v then 1 else 2
def fb (v a b c k : Nat) : Bool := decide (rs (a / 2 ^ k % 2) (b / 2 ^ k % 2) v = c)
theorem sbN_lt {v a b c : Nat} (h : wOk a b c) : sbN v a b c < 512 := by
  obtain ⟨h1, h2, h3, h4, h5, h6, h7⟩ := h
  unfold sbN
  split
  · omega
  · by_cases e : (if c = 1 then 1 else 0) = v
    · rw [if_pos e]; omega
    · rw [if_neg e]; omega
theorem sbN_bit {v a b c k : Nat} (h : wOk a b c) (hv : v = 0 ∨ v = 1) (hk : k < 9) : (sbN v a b c).testBit k = fb v a b c k := by
  obtain ⟨h1, h2, h3, h4, h5, h6, h7⟩ := h
  have d : (a &&& b).testBit k = false := by rw [h5]; exact Nat.zero_testBit k
  have o : (a ||| b) < 2 ^ 9 := Nat.or_lt_two_pow (by omega) (by omega)
  have ob : (a ||| b).testBit k = (a.testBit k || b.testBit k) := Nat.testBit_or a b k
  rw [Nat.testBit_and] at d
  rw [tb, tb] at d
  rw [tb, tb, tb] at ob
  have nb := not9b _ o k hk
  rw [tb]
  have hx : a / 2 ^ k % 2 < 2 := Nat.mod_lt _ (by decide)
  have hy : b / 2 ^ k % 2 < 2 := Nat.mod_lt _ (by decide)
  unfold fb sbN rs
  obtain gx | gx : a / 2 ^ k % 2 = 0 ∨ a / 2 ^ k % 2 = 1 := by omega
  all_goals obtain gy | gy : b / 2 ^ k % 2 = 0 ∨ b / 2 ^ k % 2 = 1 := by omega
  all_goals rw [gx, gy] at d ob
  all_goals rw [gx, gy]
  all_goals obtain rfl | rfl | rfl : c = 0 ∨ c = 1 ∨ c = 2 := by omega
  all_goals obtain rfl | rfl := hv
  all_goals simp_all
def xs6 (S : AS) (v : Nat) : Nat → Nat
  | 0 => 511
  | j + 1 => xs6 S v j &&& sbN v (S.2.1 4 j) (S.2.1 5 j) (S.2.1 6 j)
def pb (S : AS) (v k : Nat) : Nat → Bool
  | 0 => true
  | j + 1 => pb S v k j && fb v (S.2.1 4 j) (S.2.1 5 j) (S.2.1 6 j) k
theorem xs6_bit {S : AS} (hG : Gw S) {v : Nat} (hv : v = 0 ∨ v = 1) {k : Nat} (hk : k < 9) : ∀ j, j ≤ S.1 6 → (xs6 S v j).testBit k = pb S v k j := by
  intro j
  induction j with
  | zero => intro _; exact f511 k hk
  | succ j ih =>
    intro h
    unfold xs6 pb
    rw [Nat.testBit_and, ih (by omega), sbN_bit (hG.2 j (by omega)) hv hk]
theorem xs6_lt (S : AS) (v : Nat) : ∀ j, xs6 S v j < 512 := by
  intro j
  induction j with
  | zero => show 511 < 512; decide
  | succ j ih =>
    unfold xs6
    exact Nat.lt_of_le_of_lt Nat.and_le_left ih
theorem xs6_eq {S : AS} (hG : Gw S) {v : Nat} (hv : v = 0 ∨ v = 1) : xs6 S v (S.1 6) = bsum (fun k => pb S v k (S.1 6)) 9 := by
  apply Nat.eq_of_testBit_eq
  intro i
  by_cases hi : i < 9
  · rw [xs6_bit hG hv hi _ (Nat.le_refl _), tb, bsum_bit _ hi]
    by_cases e : pb S v i (S.1 6) = true
    · rw [if_pos e, e]; rfl
    · rw [if_neg e, Bool.eq_false_iff.mpr e]; rfl
  · have h9 : 2 ^ 9 ≤ 2 ^ i := Nat.pow_le_pow_right (by decide) (by omega)
    rw [Nat.testBit_lt_two_pow (Nat.lt_of_lt_of_le (xs6_lt S v _) h9), Nat.testBit_lt_two_pow (Nat.lt_of_lt_of_le (bsum_lt _ 9) h9)]
theorem sby {v a b c j : Nat} (hw : wOk a b c) (hv : v = 0 ∨ v = 1) (hj : j < 10) {z : Mem} (h1 : z.1 14 j = nI a) (h2 : z.1 15 j = nI b) (h3 : z.1 16 j = nI c) : fX6_suspectsBy (nI j) (nI v) z = some (nI (sbN v a b c), z) := by
  obtain ⟨w1, w2, w3, w4, w5, w6, w7⟩ := hw
  have o : (a ||| b) < 2 ^ 9 := Nat.or_lt_two_pow (by omega) (by omega)
  unfold fX6_suspectsBy
  rw [rgs hj (by decide), lts, clamp (by omega), h1, h2, h3]
  unfold sbN
  by_cases c0 : c = 0
  · rw [if_pos (show nI c = 0 by rw [c0]; rfl), rgs hj (by decide), lts, rgs hj (by decide), lts, nI_or, not9 _ o, if_pos c0]
  · rw [if_neg (show ¬ nI c = 0 from nI_ne0 (by omega) (by omega)), rgs hj (by decide), lts, jns, if_neg c0]
    dsimp only
    obtain rfl | rfl : c = 1 ∨ c = 2 := by omega
    · rw [if_pos (show nI 1 = (1 : Int32) from rfl), if_pos (show (1 : Nat) = 1 from rfl)]
      obtain rfl | rfl := hv
      · rw [if_neg (show ¬ (1 : Int32) = nI 0 by decide), rgs hj (by decide), lts, h2, if_neg (show ¬ (1 : Nat) = 0 by decide)]
      · rw [if_pos (show (1 : Int32) = nI 1 from rfl), rgs hj (by decide), lts, h1, if_pos (show (1 : Nat) = 1 from rfl)]
    · rw [if_neg (show ¬ nI 2 = (1 : Int32) by decide), if_neg (show ¬ (2 : Nat) = 1 by decide)]
      obtain rfl | rfl := hv
      · rw [if_pos (show (0 : Int32) = nI 0 from rfl), rgs hj (by decide), lts, h1, if_pos (show (0 : Nat) = 0 from rfl)]
      · rw [if_neg (show ¬ (0 : Int32) = nI 1 by decide), rgs hj (by decide), lts, h2, if_neg (show ¬ (0 : Nat) = 1 by decide)]
theorem sus_L {S : AS} {z : Mem} (hG : Gw S) (hC : Cw S z) {v : Nat} (hv : v = 0 ∨ v = 1) (K : Int32 → Int32 → Mem → Option (Int32 × Mem)) : ∀ (d j n : Nat), j + d = S.1 6 → d < n → fX6_suspects_L6 K (nI v) n (nI (xs6 S v j)) (nI j) z = K (nI (xs6 S v (S.1 6))) (nI (S.1 6)) z := by
  have hs := hG.1
  intro d
  induction d with
  | zero =>
    intro j n h1 h2
    obtain ⟨n, rfl⟩ : ∃ k, n = k + 1 := ⟨n - 1, by omega⟩
    obtain rfl : j = S.1 6 := by omega
    rw [fX6_suspects_L6_s, hC.1, if_pos (nI_le (Nat.le_refl _) (by omega))]
  | succ d ih =>
    intro j n h1 h2
    obtain ⟨n, rfl⟩ : ∃ k, n = k + 1 := ⟨n - 1, by omega⟩
    obtain ⟨c1, c2, c3⟩ := hC.2 j (by omega)
    rw [fX6_suspects_L6_s, hC.1, if_neg (nI_ge (by omega) (by omega)), sby (hG.2 j (by omega)) hv (by omega) c1 c2 c3, cls, lts, lts, nI_and, show nI j + (1 : Int32) = nI (j + 1) from nI_1 j]
    exact ih (j + 1) n (by omega) (by omega)
theorem susp {S : AS} {z : Mem} (hG : Gw S) (hC : Cw S z) {v : Nat} (hv : v = 0 ∨ v = 1) : fX8_mayBe (nI v) z = some (nI (xs6 S v (S.1 6)), z) := by
  have h := sus_L hG hC hv (fun (x2_3 : Int32) (x3_4 : Int32) (z_2 : Mem) => some (x2_3, z_2)) (S.1 6) 0 FU (by omega) (by have := hG.1; unfold FU; omega)
  unfold fX8_mayBe
  have h' : fX6_suspects (nI v) z = _ := h
  rw [h', cls]
def bI (b : Bool) : Int32 := if b = true then 1 else 0
theorem mb_L {S : AS} {y : Mem} (hG : Gw S) (hR : Rw S y) {v k : Nat} (hv : v = 0 ∨ v = 1) (hk : k < 9) (K : Int32 → Int32 → Mem → Option (Int32 × Mem)) : ∀ (d j n : Nat), j + d = S.1 6 → d < n → fX9_mayBe_L16 K (nI v) (nI k) n (bI (pb S v k j)) (nI j) y = K (bI (pb S v k (S.1 6))) (nI (S.1 6)) y := by
  have hs := hG.1
  intro d
  induction d with
  | zero =>
    intro j n h1 h2
    obtain ⟨n, rfl⟩ : ∃ k, n = k + 1 := ⟨n - 1, by omega⟩
    obtain rfl : j = S.1 6 := by omega
    rw [fX9_mayBe_L16_s, hR.1, if_pos (nI_le (Nat.le_refl _) (by omega))]
  | succ d ih =>
    intro j n h1 h2
    obtain ⟨n, rfl⟩ : ∃ k, n = k + 1 := ⟨n - 1, by omega⟩
    obtain ⟨c1, c2, c3⟩ := hR.2 j (by omega)
    obtain ⟨w1, w2, w3, w4, w5, w6, w7⟩ := hG.2 j (by omega)
    have hj : j < 10 := by omega
    have step : ∀ r : Nat, r ≤ 2 → r = rs (S.2.1 4 j / 2 ^ k % 2) (S.2.1 5 j / 2 ^ k % 2) v → (if bI (pb S v k j) = 0 then lt (nI j + (1 : Int32)) (fun x5_38 => (fX9_mayBe_L16 K (nI v) (nI k) n (0 : Int32) x5_38 y)) else rg (nI j) 10 (lt ((y.1 32 j) : Int32) (fun a_40 => (if nI r = a_40 then lt (nI j + (1 : Int32)) (fun x5_43 => (fX9_mayBe_L16 K (nI v) (nI k) n (1 : Int32) x5_43 y)) else lt (nI j + (1 : Int32)) (fun x5_42 => (fX9_mayBe_L16 K (nI v) (nI k) n (0 : Int32) x5_42 y)))))) = K (bI (pb S v k (S.1 6))) (nI (S.1 6)) y := by
      intro r hr er
      rw [← ih (j + 1) n (by omega) (by omega)]
      have eb : pb S v k (j + 1) = (pb S v k j && decide (r = S.2.1 6 j)) := by rw [er]; rfl
      rw [eb, lts, rgs hj (by decide), lts, c3, show nI j + (1 : Int32) = nI (j + 1) from nI_1 j]
      cases hb : pb S v k j
      · rw [if_pos (show bI false = 0 from rfl)]; rfl
      · rw [if_neg (show ¬ bI true = 0 by decide)]
        by_cases e : r = S.2.1 6 j
        · rw [if_pos (show nI r = nI (S.2.1 6 j) by rw [e]), decide_eq_true e]; rfl
        · rw [if_neg (fun t => e ((nI_eq (by omega) (by omega)).mp t)), decide_eq_false e]; rfl
    rw [fX9_mayBe_L16_s, hR.1, if_neg (nI_ge (by omega) (by omega)), rgs hj (by decide), lts, clamp (by omega), c1, jns, bit9 _ (by omega) k hk]
    dsimp only
    have hx : S.2.1 4 j / 2 ^ k % 2 < 2 := Nat.mod_lt _ (by decide)
    have hy : S.2.1 5 j / 2 ^ k % 2 < 2 := Nat.mod_lt _ (by decide)
    generalize S.2.1 4 j / 2 ^ k % 2 = x at *
    have second : ∀ (w : Int32), w = nI x → (∀ (u : Int32), u = nI (S.2.1 5 j / 2 ^ k % 2) → True) := fun _ _ _ _ => trivial
    have hb9 := bit9 (S.2.1 5 j) (by omega) k hk
    obtain rfl | rfl : x = 0 ∨ x = 1 := by omega
    · rw [if_neg (show ¬ nI 0 = (1 : Int32) by decide), rgs hj (by decide), lts, jns, c2, hb9]
      dsimp only
      generalize S.2.1 5 j / 2 ^ k % 2 = t at *
      obtain rfl | rfl : t = 0 ∨ t = 1 := by omega
      · rw [if_neg (show ¬ nI 0 = (1 : Int32) by decide), jns]
        dsimp only
        rw [if_pos rfl, if_pos rfl]
        exact step 0 (by decide) (by obtain rfl | rfl := hv <;> rfl)
      · rw [if_pos (show nI 1 = (1 : Int32) from rfl), jns]
        dsimp only
        rw [if_pos rfl, if_neg one0]
        obtain rfl | rfl := hv
        · rw [if_pos (show (0 : Int32) = nI 0 from rfl)]
          exact step 1 (by decide) rfl
        · rw [if_neg (show ¬ (0 : Int32) = nI 1 by decide)]
          exact step 2 (by decide) rfl
    · rw [if_pos (show nI 1 = (1 : Int32) from rfl), rgs hj (by decide), lts, jns, c2, hb9]
      dsimp only
      generalize S.2.1 5 j / 2 ^ k % 2 = t at *
      obtain rfl | rfl : t = 0 ∨ t = 1 := by omega
      · rw [if_neg (show ¬ nI 0 = (1 : Int32) by decide), jns]
        dsimp only
        rw [if_neg one0]
        obtain rfl | rfl := hv
        · rw [if_neg (show ¬ (1 : Int32) = nI 0 by decide)]
          exact step 2 (by decide) rfl
        · rw [if_pos (show (1 : Int32) = nI 1 from rfl)]
          exact step 1 (by decide) rfl
      · rw [if_pos (show nI 1 = (1 : Int32) from rfl), jns]
        dsimp only
        rw [if_neg one0]
        obtain rfl | rfl := hv
        · rw [if_neg (show ¬ (1 : Int32) = nI 0 by decide)]
          exact step 2 (by decide) rfl
        · rw [if_pos (show (1 : Int32) = nI 1 from rfl)]
          exact step 1 (by decide) rfl
theorem mb_4 {S : AS} {y : Mem} (hG : Gw S) (hR : Rw S y) {v : Nat} (hv : v = 0 ∨ v = 1) (K : Int32 → Int32 → Mem → Option (Int32 × Mem)) : ∀ (d k n : Nat), k + d = 9 → d < n → fX9_mayBe_L4 K (nI v) n (nI (bsum (fun k => pb S v k (S.1 6)) k)) (nI k) y = K (nI (bsum (fun k => pb S v k (S.1 6)) 9)) (nI 9) y := by
  have hs := hG.1
  intro d
  induction d with
  | zero =>
    intro k n h1 h2
    obtain ⟨n, rfl⟩ : ∃ k, n = k + 1 := ⟨n - 1, by omega⟩
    obtain rfl : k = 9 := by omega
    rw [fX9_mayBe_L4_s, if_pos (show (9 : Int32) ≤ nI 9 by decide)]
  | succ d ih =>
    intro k n h1 h2
    obtain ⟨n, rfl⟩ : ∃ k, n = k + 1 := ⟨n - 1, by omega⟩
    have hk : k < 9 := by omega
    have hl := bsum_lt (fun k => pb S v k (S.1 6)) k
    have hp : 2 ^ k ≤ 2 ^ 9 := Nat.pow_le_pow_right (by decide) (by omega)
    rw [fX9_mayBe_L4_s, if_neg (show ¬ (9 : Int32) ≤ nI k from nI_ge (b := 9) (by omega) (by decide))]
    generalize hK : (fun (x4_12 : Int32) (x5_13 : Int32) (z_11 : Mem) => (if x4_12 = 0 then lt ((nI (bsum (fun k => pb S v k (S.1 6)) k) ||| (0 : Int32)) : Int32) (fun x2_15 => lt (nI k + (1 : Int32)) (fun x3_16 => (fX9_mayBe_L4 K (nI v) n x2_15 x3_16 z_11))) else lt ((nI (bsum (fun k => pb S v k (S.1 6)) k) ||| ((1 : Int32) <<< (nI k &&& 31))) : Int32) (fun x2_17 => lt (nI k + (1 : Int32)) (fun x3_18 => (fX9_mayBe_L4 K (nI v) n x2_17 x3_18 z_11))))) = K'
    have h := mb_L hG hR hv hk K' (S.1 6) 0 FU (by omega) (by unfold FU; omega)
    have h' : fX9_mayBe_L16 K' (nI v) (nI k) FU (1 : Int32) (0 : Int32) y = _ := h
    rw [h', ← hK]
    dsimp only
    rw [← ih (k + 1) n (by omega) (by omega)]
    cases hb : pb S v k (S.1 6)
    · have e : bsum (fun k => pb S v k (S.1 6)) (k + 1) = bsum (fun k => pb S v k (S.1 6)) k := by
        show _ + (if pb S v k (S.1 6) = true then 2 ^ k else 0) = _
        rw [if_neg (by rw [hb]; decide), Nat.add_zero]
      rw [if_pos (show bI false = 0 from rfl), lts, lts, or90 _ (by omega), show nI k + (1 : Int32) = nI (k + 1) from nI_1 k, e]
    · have e : bsum (fun k => pb S v k (S.1 6)) (k + 1) = bsum (fun k => pb S v k (S.1 6)) k + 2 ^ k := by
        show _ + (if pb S v k (S.1 6) = true then 2 ^ k else 0) = _
        rw [if_pos hb]
      rw [if_neg (show ¬ bI true = 0 by decide), lts, lts, or9 k hk _ hl, show nI k + (1 : Int32) = nI (k + 1) from nI_1 k, e]
theorem ok_mayBe (v : Int32) (hv : v = 0 ∨ v = 1) : Ok (fX8_mayBe v) (fX9_mayBe v) := by
  obtain ⟨n, hn, rfl⟩ : ∃ n : Nat, (n = 0 ∨ n = 1) ∧ v = nI n := by
    obtain rfl | rfl := hv
    · exact ⟨0, Or.inl rfl, rfl⟩
    · exact ⟨1, Or.inr rfl, rfl⟩
  refine ok_read fun k S z y hk hG hC hR => ⟨_, susp hG.2.2.2.2.1 hC.2.2.2.2.1 hn, ?_⟩
  rw [xs6_eq hG.2.2.2.2.1 hn]
  exact mb_4 hG.2.2.2.2.1 hR.2.2.2.2.1 hn (fun (x2_3 : Int32) (x3_4 : Int32) (z_2 : Mem) => some (x2_3, z_2)) 9 0 FU rfl (by unfold FU; decide)
