/-! ===== years ===== -/
def nxt (s : Int64) : Int64 := s * (6364136223846793005 : Int64) + (1442695040888963407 : Int64)
def upN (s : Int64) : Nat := s.toBitVec.toNat / 2 ^ 33
theorem upN_lt (s : Int64) : upN s < 2 ^ 31 := by
  have := s.toBitVec.isLt
  unfold upN
  omega
theorem ushr33 (s : Int64) : (s.toUInt64 >>> ((33 : Int32).toInt64.toUInt64 &&& Int64.toUInt64 63)).toInt64 = lN (upN s) := by
  rw [show ((33 : Int32).toInt64.toUInt64 &&& Int64.toUInt64 63) = (33 : UInt64) by decide]
  apply Int64.toBitVec_inj.mp
  apply BitVec.eq_of_toNat_eq
  have h1 : (s.toUInt64 >>> (33 : UInt64)).toInt64.toBitVec.toNat = upN s := by
    show (s.toUInt64 >>> (33 : UInt64)).toNat = _
    rw [UInt64.toNat_shiftRight, Nat.shiftRight_eq_div_pow]
    rfl
  rw [h1]
  have h2 := upN_lt s
  show _ = (Int64.ofNat (upN s)).toBitVec.toNat
  rw [Int64.toBitVec_ofNat', BitVec.toNat_ofNat, Nat.mod_eq_of_lt (by omega)]
def g7 (s : Int64) : Nat := upN s % 7
theorem n7 : ¬ (7 : Int32) = 0 := by decide
theorem n7l : ¬ (7 : Int64) = 0 := by decide
theorem ounces {w g : Nat} (hw : w < 2 ^ 20) (hg : g < 7) : mx (nI w + (nI g - (3 : Int32)) * (5 : Int32)) = nI (max 1 (w + 5 * g - 15)) := by
  have e : nI w + (nI g - (3 : Int32)) * (5 : Int32) = nI (w + 5 * g) - nI 15 := by
    apply Int32.toInt_inj.mp
    have a1 := pk_sub_toInt (a := w + 5 * g) (b := 15) (by omega) (by decide)
    rw [a1, Int32.toInt_add, Int32.toInt_mul, show (3 : Int32) = nI 3 from rfl, pk_sub_toInt (a := g) (b := 3) (by omega) (by decide), nI_toInt (by omega), show (5 : Int32).toInt = 5 from rfl]
    rw [show (((g : Int) - (3 : Nat)) * 5).bmod (2 ^ 32) = ((g : Int) - 3) * 5 by rw [Int.bmod_eq_of_le] <;> omega]
    rw [Int.bmod_eq_of_le] <;> omega
  rw [e, mx_sub (by omega) (by decide)]
theorem rem7 (n : Nat) (h : n < 2 ^ 31) : nI n - nI n / (7 : Int32) * (7 : Int32) = nI (n % 7) := pk_rem (d := 7) h (by decide) (by decide)
theorem rem7l (n : Nat) (h : n < 2 ^ 31) : lN n - lN n / (7 : Int64) * (7 : Int64) = lN (n % 7) := pk_lRem (b := 7) (by omega) (by decide) (by decide)
theorem next7 {z : Mem} {s : Int64} (h : z.2 8 1 = s) : fX7_nextOunces z = some ((nI (g7 (nxt s)) - (3 : Int32)) * (5 : Int32), sL z 8 1 (nxt s)) := by
  unfold fX7_nextOunces
  rw [h, show s * (6364136223846793005 : Int64) + (1442695040888963407 : Int64) = nxt s from rfl, lts, lts, lts, nzs n7, show (sL z 8 1 (nxt s)).2 8 1 = nxt s from rfl, ushr33, lN_i, rem7 _ (upN_lt _)]
  rfl
/-- one month's ounces, person by person -/
def runP : Nat → Nat → Int64 → (Nat → Nat) → Int64 × (Nat → Nat)
  | 0, _, s, c => (s, c)
  | d + 1, i, s, c => runP d (i + 1) (nxt s) (updN c (5 * i) (max 1 (c (5 * i) + 5 * g7 (nxt s) - 15)))
theorem g7_lt (s : Int64) : g7 s < 7 := Nat.mod_lt _ (by decide)
/-- the bounds of cells within a year -/
def yB (m B : Nat) (c : Nat → Nat) : Prop := ∀ p, p < m → c (5 * p) ≤ B ∧ c (5 * p + 1) ≤ 9 ∧ c (5 * p + 2) ≤ 9
theorem yB_run {m B : Nat} (hB : 1 ≤ B) : ∀ (d i : Nat) (s : Int64) (c : Nat → Nat), (∀ p, p < m → c (5 * p) ≤ (if p < i then B + 15 else B) ∧ c (5 * p + 1) ≤ 9 ∧ c (5 * p + 2) ≤ 9) → yB m (B + 15) (runP d i s c).2 := by
  intro d
  induction d with
  | zero =>
    intro i s c h p hp
    have := h p hp
    show c (5 * p) ≤ B + 15 ∧ _
    refine ⟨?_, this.2⟩
    have := this.1
    split at this <;> omega
  | succ d ih =>
    intro i s c h
    refine ih (i + 1) _ _ (fun p hp => ?_)
    have hh := h p hp
    have g := g7_lt (nxt s)
    rw [updN_ne _ _ (show 5 * p + 1 ≠ 5 * i by omega), updN_ne _ _ (show 5 * p + 2 ≠ 5 * i by omega)]
    refine ⟨?_, hh.2⟩
    by_cases e : p = i
    · subst e
      rw [updN_eq, if_pos (by omega)]
      have := hh.1
      rw [if_neg (by omega)] at this
      omega
    · rw [updN_ne _ _ (by omega)]
      have := hh.1
      by_cases l : p < i
      · rw [if_pos l] at this
        rw [if_pos (by omega)]
        exact this
      · rw [if_neg l] at this
        split <;> omega
theorem month8 {m : Nat} (hm : m ≤ 5) (K : Int32 → Mem → Option (Int32 × Mem)) : ∀ (d i : Nat) (z : Mem) (n : Nat) (s : Int64) (c : Nat → Nat), i + d = m → d < n → z.1 9 1 = nI m → z.2 8 1 = s → holds (z.1 24) m c → (∀ p, i ≤ p → p < m → c (5 * p) < 2 ^ 20) → ∃ z1, fX7_monthsOf_L24 K n (nI i) z = K (nI m) z1 ∧ z1.2 8 1 = (runP d i s c).1 ∧ holds (z1.1 24) m (runP d i s c).2 ∧ Out [8, 24] z z1 ∧ z1.1 8 = z.1 8 := by
  intro d
  induction d with
  | zero =>
    intro i z n s c h1 h2 hz hs hh hc
    obtain ⟨n, rfl⟩ : ∃ k, n = k + 1 := ⟨n - 1, by omega⟩
    have : i = m := by omega
    subst this
    exact ⟨z, by rw [fX7_monthsOf_L24_s]; unfold fX2_size_9; rw [cls, hz, if_pos (nI_le (Nat.le_refl i) (by omega))], hs, hh, Out.rf _ z, rfl⟩
  | succ d ih =>
    intro i z n s c h1 h2 hz hs hh hc
    obtain ⟨n, rfl⟩ : ∃ k, n = k + 1 := ⟨n - 1, by omega⟩
    have hi : i < m := by omega
    have g := g7_lt (nxt s)
    have hci := hc i (Nat.le_refl i) hi
    obtain ⟨z1, a1, a2, a3, a4, a5⟩ := ih (i + 1) (sI (sL z 8 1 (nxt s)) 24 (5 * i) (nI (max 1 (c (5 * i) + 5 * g7 (nxt s) - 15)))) n (nxt s) (updN c (5 * i) (max 1 (c (5 * i) + 5 * g7 (nxt s) - 15))) (by omega) (by omega) hz rfl (hh.put _ _) (fun p hpi hp => by rw [updN_ne _ _ (by omega)]; exact hc p (by omega) hp)
    refine ⟨z1, ?_, a2, a3, ((Out.sL [8, 24] z _ _ (by decide)).tr (Out.sI _ _ _ _ (by decide))).tr a4, a5⟩
    have v0 : (sL z 8 1 (nxt s)).1 24 (5 * i) = nI (c (5 * i)) := hh.at0 hi
    rw [← a1, fX7_monthsOf_L24_s]
    unfold fX2_size_9
    rw [cls, hz, if_neg (nI_ge hi (by omega)), next7 hs, cls, gain9 (by omega), cls, v0, ounces hci g, lts, show nI i + (1 : Int32) = nI (i + 1) from nI_1 i]
theorem month9 {m : Nat} (hm : m ≤ 5) (K : Int32 → Mem → Option (Int32 × Mem)) : ∀ (d i : Nat) (z : Mem) (n : Nat) (s : Int64) (c : Nat → Nat), i + d = m → d < n → z.1 25 6 = nI m → z.2 25 30 = s → holds (z.1 27) m c → (∀ p, i ≤ p → p < m → c (5 * p) < 2 ^ 20) → ∃ z1, fX9_reign_L66 K n (nI i) z = K (nI m) z1 ∧ z1.2 25 30 = (runP d i s c).1 ∧ holds (z1.1 27) m (runP d i s c).2 ∧ Out [25, 27] z z1 ∧ z1.1 25 = z.1 25 := by
  intro d
  induction d with
  | zero =>
    intro i z n s c h1 h2 hz hs hh hc
    obtain ⟨n, rfl⟩ : ∃ k, n = k + 1 := ⟨n - 1, by omega⟩
    have : i = m := by omega
    subst this
    exact ⟨z, by rw [fX9_reign_L66_s, hz, if_pos (nI_le (Nat.le_refl i) (by omega))], hs, hh, Out.rf _ z, rfl⟩
  | succ d ih =>
    intro i z n s c h1 h2 hz hs hh hc
    obtain ⟨n, rfl⟩ : ∃ k, n = k + 1 := ⟨n - 1, by omega⟩
    have hi : i < m := by omega
    have g := g7_lt (nxt s)
    have hci := hc i (Nat.le_refl i) hi
    obtain ⟨z1, a1, a2, a3, a4, a5⟩ := ih (i + 1) (sI (sL z 25 30 (nxt s)) 27 (5 * i) (nI (max 1 (c (5 * i) + 5 * g7 (nxt s) - 15)))) n (nxt s) (updN c (5 * i) (max 1 (c (5 * i) + 5 * g7 (nxt s) - 15))) (by omega) (by omega) hz rfl (hh.put _ _) (fun p hpi hp => by rw [updN_ne _ _ (by omega)]; exact hc p (by omega) hp)
    refine ⟨z1, ?_, a2, a3, ((Out.sL [25, 27] z _ _ (by decide)).tr (Out.sI _ _ _ _ (by decide))).tr a4, a5⟩
    have v0 : (sL z 25 30 (nxt s)).1 27 (5 * i) = nI (c (5 * i)) := hh.at0 hi
    rw [← a1, fX9_reign_L66_s, hz, if_neg (nI_ge hi (by omega)), hs, show s * (6364136223846793005 : Int64) + (1442695040888963407 : Int64) = nxt s from rfl, lts, lts, nzl, if_neg n7l, show (sL z 25 30 (nxt s)).2 25 30 = nxt s from rfl, ushr33, rem7l _ (upN_lt _), lts, lN_i, lts, lts, c50, rd (by omega), lts, clamp (by omega), v0, left9, Int32.mul_comm (5 : Int32), show upN (nxt s) % 7 = g7 (nxt s) from rfl, ounces hci g, cls, rd (by omega), lts, lts, show nI i + (1 : Int32) = nI (i + 1) from nI_1 i]
/-- how many of so many months a person rules, and the seed behind them -/
def yr (m il lw p : Nat) : Nat → Int64 → (Nat → Nat) → Nat × Int64
  | 0, s, _ => (0, s)
  | e + 1, s, c => ((if crw m il lw (runP m 0 s c).2 = some p then 1 else 0) + (yr m il lw p e (runP m 0 s c).1 (runP m 0 s c).2).1, (yr m il lw p e (runP m 0 s c).1 (runP m 0 s c).2).2)
theorem enc_eq {o : Option Nat} {p : Nat} (ho : ∀ q, o = some q → q < 2 ^ 20) (hp : p < 2 ^ 20) : enc o = nI p ↔ o = some p := by
  cases o with
  | none => exact ⟨fun h => absurd h.symm (enc_ne (by omega)), fun h => by cases h⟩
  | some q =>
    have := ho q rfl
    constructor
    · intro h; rw [(nI_eq (by omega) (by omega)).mp h]
    · intro h; cases h; rfl
theorem yB.nw {m B : Nat} {c : Nat → Nat} (h : yB m B c) (hB : B < 2 ^ 18) {p : Nat} (hp : p < m) : nw c p < 2 ^ 20 := by
  have := h p hp
  unfold Jvm.Pilot.@@N@@.nw
  omega
theorem year8 {m il lw p : Nat} (hm : m ≤ 5) (hil : il ≤ 9) (hlw : lw ≤ 2) (hp : p < m) : ∀ (e j : Nat) (z : Mem) (n : Nat) (s : Int64) (c : Nat → Nat) (B acc : Nat), j + e = 12 → e < n → z.1 9 1 = nI m → z.1 9 3 = nI il → z.2 8 1 = s → holds (z.1 24) m c → yB m B c → 1 ≤ B → B + 15 * e < 2 ^ 17 → ∃ z1, fX7_monthsOf_L14 (fun (x4_6 : Int32) (_ : Int32) (z_5 : Mem) => some (x4_6, z_5)) (nI p) (nI lw) n (nI acc) (nI j) z = some (nI (acc + (yr m il lw p e s c).1), z1) ∧ z1.2 8 1 = (yr m il lw p e s c).2 ∧ Out [8, 24] z z1 ∧ z1.1 8 = z.1 8 := by
  intro e
  induction e with
  | zero =>
    intro j z n s c B acc h1 h2 hz h3 hs hh hB hB1 hB2
    obtain ⟨n, rfl⟩ : ∃ k, n = k + 1 := ⟨n - 1, by omega⟩
    exact ⟨z, by rw [fX7_monthsOf_L14_s, if_pos (show (12 : Int32) ≤ nI j from nI_le (a := 12) (by omega) (by omega))]; rfl, hs, Out.rf _ z, rfl⟩
  | succ e ih =>
    intro j z n s c B acc h1 h2 hz h3 hs hh hB hB1 hB2
    obtain ⟨n, rfl⟩ : ∃ k, n = k + 1 := ⟨n - 1, by omega⟩
    rw [fX7_monthsOf_L14_s, if_neg (show ¬ (12 : Int32) ≤ nI j from nI_ge (b := 12) (by omega) (by decide))]
    generalize hK : (fun (x6_15 : Int32) (z_14 : Mem) => cl (fX2_crownedBy_9 (nI lw) z_14) (fun r_16 z_17 => (if r_16 = nI p then lt (nI acc + (1 : Int32)) (fun x4_21 => lt (nI j + (1 : Int32)) (fun x5_22 => (fX7_monthsOf_L14 (fun (x4_6 : Int32) (_ : Int32) (z_5 : Mem) => some (x4_6, z_5)) (nI p) (nI lw) n x4_21 x5_22 z_17))) else lt (nI j + (1 : Int32)) (fun x5_20 => (fX7_monthsOf_L14 (fun (x4_6 : Int32) (_ : Int32) (z_5 : Mem) => some (x4_6, z_5)) (nI p) (nI lw) n (nI acc) x5_20 z_17))))) = K
    obtain ⟨z1, a1, a2, a3, a4, a5⟩ := month8 hm K m 0 z FU s c (by omega) (by unfold FU; omega) hz hs hh (fun q _ hq => by have := hB q hq; omega)
    have a1' : fX7_monthsOf_L24 K FU 0 z = K (nI m) z1 := a1
    have hB' : yB m (B + 15) (runP m 0 s c).2 := yB_run hB1 m 0 s c (fun q hq => by rw [if_neg (by omega)]; exact hB q hq)
    have e9 := (a4 9 (by decide)).1
    have C9 := crowned9 (lw := lw) hm hil hlw (by rw [e9]; exact hz) (by rw [e9]; exact h3) a3 (fun q hq => hB'.nw (by omega) hq)
    have e1 : nI j + (1 : Int32) = nI (j + 1) := nI_1 j
    have ee := enc_eq (o := crw m il lw (runP m 0 s c).2) (p := p) (fun q hq => by have := crw_lt hq; omega) (by omega)
    rw [a1', ← hK]
    dsimp only
    rw [C9, cls]
    by_cases g : crw m il lw (runP m 0 s c).2 = some p
    · obtain ⟨z2, b1, b2, b3, b4⟩ := ih (j + 1) z1 n (runP m 0 s c).1 (runP m 0 s c).2 (B + 15) (acc + 1) (by omega) (by omega) (by rw [e9]; exact hz) (by rw [e9]; exact h3) a2 a3 hB' (by omega) (by omega)
      refine ⟨z2, ?_, b2, a4.tr b3, b4.trans a5⟩
      rw [if_pos (ee.mpr g), lts, lts, e1, show nI acc + (1 : Int32) = nI (acc + 1) from nI_1 acc, b1]
      show some (nI (acc + 1 + _), z2) = some (nI (acc + ((if crw m il lw (runP m 0 s c).2 = some p then 1 else 0) + _)), z2)
      rw [if_pos g, Nat.add_assoc]
    · obtain ⟨z2, b1, b2, b3, b4⟩ := ih (j + 1) z1 n (runP m 0 s c).1 (runP m 0 s c).2 (B + 15) acc (by omega) (by omega) (by rw [e9]; exact hz) (by rw [e9]; exact h3) a2 a3 hB' (by omega) (by omega)
      refine ⟨z2, ?_, b2, a4.tr b3, b4.trans a5⟩
      rw [if_neg (fun q => g (ee.mp q)), lts, e1, b1]
      show some (nI (acc + _), z2) = some (nI (acc + ((if crw m il lw (runP m 0 s c).2 = some p then 1 else 0) + _)), z2)
      rw [if_neg g, Nat.zero_add]
theorem year9 {m il lw p : Nat} (hm : m ≤ 5) (hil : il ≤ 9) (hlw : lw ≤ 2) (hp : p < m) (K0 : Int32 → Int32 → Mem → Option (Int32 × Mem)) : ∀ (e j : Nat) (z : Mem) (n : Nat) (s : Int64) (c : Nat → Nat) (B acc : Nat), j + e = 12 → e < n → z.1 25 6 = nI m → z.1 25 9 = nI il → z.2 25 30 = s → holds (z.1 27) m c → yB m B c → 1 ≤ B → B + 15 * e < 2 ^ 17 → ∃ z1, fX9_reign_L56 K0 (nI p) (nI lw) n (nI acc) (nI j) z = K0 (nI (acc + (yr m il lw p e s c).1)) (nI 12) z1 ∧ z1.2 25 30 = (yr m il lw p e s c).2 ∧ Out [25, 27] z z1 ∧ z1.1 25 = z.1 25 := by
  intro e
  induction e with
  | zero =>
    intro j z n s c B acc h1 h2 hz h3 hs hh hB hB1 hB2
    obtain ⟨n, rfl⟩ : ∃ k, n = k + 1 := ⟨n - 1, by omega⟩
    have : j = 12 := by omega
    subst this
    exact ⟨z, by rw [fX9_reign_L56_s, if_pos (show (12 : Int32) ≤ nI 12 by decide)]; rfl, hs, Out.rf _ z, rfl⟩
  | succ e ih =>
    intro j z n s c B acc h1 h2 hz h3 hs hh hB hB1 hB2
    obtain ⟨n, rfl⟩ : ∃ k, n = k + 1 := ⟨n - 1, by omega⟩
    rw [fX9_reign_L56_s, if_neg (show ¬ (12 : Int32) ≤ nI j from nI_ge (b := 12) (by omega) (by decide))]
    generalize hK : (fun (x5_35 : Int32) (z_34 : Mem) => cl (fX9_crownBy (nI lw) z_34) (fun r_36 z_37 => (if r_36 = nI p then lt ((nI acc + (1 : Int32)) : Int32) (fun x3_42 => lt (nI j + (1 : Int32)) (fun x4_43 => (fX9_reign_L56 K0 (nI p) (nI lw) n x3_42 x4_43 z_37))) else lt ((nI acc + (0 : Int32)) : Int32) (fun x3_40 => lt (nI j + (1 : Int32)) (fun x4_41 => (fX9_reign_L56 K0 (nI p) (nI lw) n x3_40 x4_41 z_37)))))) = K
    obtain ⟨z1, a1, a2, a3, a4, a5⟩ := month9 hm K m 0 z FU s c (by omega) (by unfold FU; omega) hz hs hh (fun q _ hq => by have := hB q hq; omega)
    have a1' : fX9_reign_L66 K FU 0 z = K (nI m) z1 := a1
    have hB' : yB m (B + 15) (runP m 0 s c).2 := yB_run hB1 m 0 s c (fun q hq => by rw [if_neg (by omega)]; exact hB q hq)
    have C9 := crown9 (lw := lw) hm hil hlw (by rw [a5]; exact hz) (by rw [a5]; exact h3) a3 (fun q hq => hB'.nw (by omega) hq)
    have e1 : nI j + (1 : Int32) = nI (j + 1) := nI_1 j
    have ee := enc_eq (o := crw m il lw (runP m 0 s c).2) (p := p) (fun q hq => by have := crw_lt hq; omega) (by omega)
    rw [a1', ← hK]
    dsimp only
    rw [C9, cls]
    by_cases g : crw m il lw (runP m 0 s c).2 = some p
    · obtain ⟨z2, b1, b2, b3, b4⟩ := ih (j + 1) z1 n (runP m 0 s c).1 (runP m 0 s c).2 (B + 15) (acc + 1) (by omega) (by omega) (by rw [a5]; exact hz) (by rw [a5]; exact h3) a2 a3 hB' (by omega) (by omega)
      refine ⟨z2, ?_, b2, a4.tr b3, b4.trans a5⟩
      rw [if_pos (ee.mpr g), lts, lts, e1, show nI acc + (1 : Int32) = nI (acc + 1) from nI_1 acc, b1]
      show K0 (nI (acc + 1 + _)) _ z2 = K0 (nI (acc + ((if crw m il lw (runP m 0 s c).2 = some p then 1 else 0) + _))) _ z2
      rw [if_pos g, Nat.add_assoc]
    · obtain ⟨z2, b1, b2, b3, b4⟩ := ih (j + 1) z1 n (runP m 0 s c).1 (runP m 0 s c).2 (B + 15) acc (by omega) (by omega) (by rw [a5]; exact hz) (by rw [a5]; exact h3) a2 a3 hB' (by omega) (by omega)
      refine ⟨z2, ?_, b2, a4.tr b3, b4.trans a5⟩
      rw [if_neg (fun q => g (ee.mp q)), add0, lts, lts, e1, b1]
      show K0 (nI (acc + _)) _ z2 = K0 (nI (acc + ((if crw m il lw (runP m 0 s c).2 = some p then 1 else 0) + _))) _ z2
      rw [if_neg g, Nat.zero_add]
theorem like8 (z : Mem) : ∃ z1, fX2_becomeLike z = some ((), z1) ∧ z1.1 9 1 = z.1 2 1 ∧ z1.1 9 3 = z.1 2 3 ∧ (∀ j, j < 26 → z1.1 24 j = z.1 11 j) ∧ Out [9, 24] z z1 ∧ z1.2 = z.2 := by
  refine ⟨sI (sI (sI (sR z 24 (va_cpy (z.1 11) (z.1 24) 0 0 26)) 9 1 (z.1 2 1)) 9 2 (z.1 2 2)) 9 3 (z.1 2 3), ?_, rfl, rfl, fun j hj => ?_, ?_, rfl⟩
  · unfold fX2_becomeLike ac
    rw [if_pos ⟨by decide, by decide, by decide, by decide, by decide⟩, lts, lts, lts, lts, lts, lts, lts]
    rfl
  · show va_cpy (z.1 11) (z.1 24) 0 0 26 j = _
    rw [pk_cpy_in (by omega) (by omega)]
    exact congrArg (z.1 11) (by omega)
  · exact (((Out.sR [9, 24] z _ (by decide)).tr (Out.sI _ _ _ _ (by decide))).tr (Out.sI _ _ _ _ (by decide))).tr (Out.sI _ _ _ _ (by decide))
theorem ok_reign (p w : Int32) : Ok (fX8_reign p w) (fX9_reign p w) := by
  refine ok_of fun k S z hk hG hC => ?_
  obtain ⟨hm, hb, hil, hlw0, hcb⟩ := hG.2.1
  obtain ⟨c1, c2, c3, c4, c5'⟩ := hC.2.1
  by_cases h : isp p (S.1 1)
  · by_cases g : 0 ≤ w.toInt ∧ w.toInt ≤ 2
    · obtain ⟨a, ha, rfl⟩ := isp_of h
      obtain ⟨lw, -, hlw, rfl⟩ := rng_of (lo := 0) (hi := 2) g
      have hB : yB (S.1 1) (1000 + 72 * 512) (S.2.1 1) := fun q hq => by have := hcb.1 q hq; omega
      obtain ⟨z0, l1, l2, l3, l4, l5, l6⟩ := like8 z
      obtain ⟨z1, a1, a2, a3, a4⟩ := year8 (lw := lw) hm hil hlw ha 12 0 z0 FU S.2.2 (S.2.1 1) (1000 + 72 * 512) 0 rfl (by unfold FU; decide) (by rw [l2]; exact c1) (by rw [l3]; exact c3) (by rw [l6]; exact hC.2.2.2.2.2.2.2) (fun j hj => by rw [l4 j (ix26 hm hj)]; exact c5' j hj) hB (by omega) (by omega)
      have o : Out [8, 9, 24] z z1 := (l5.more (by decide)).tr (a3.more (by decide))
      refine ⟨nI (0 + (yr (S.1 1) (S.1 3) lw a 12 S.2.2 (S.2.1 1)).1), z1, sV S (yr (S.1 1) (S.1 3) lw a 12 S.2.2 (S.2.1 1)).2, ?_, ?_, o.M (by decide), hG.up, fun y hR => ?_⟩
      · unfold fX8_reign fX7_monthsOf
        have a1' : fX7_monthsOf_L14 (fun (x4_6 : Int32) (x5_7 : Int32) (z_5 : Mem) => some (x4_6, z_5)) (nI a) (nI lw) FU 0 0 z0 = _ := a1
        rw [hasP hm c1, cls, if_pos h, if_neg one0, isLaw8, cls, if_pos g, if_neg one0, l1, cls, a1', cls]
      · obtain ⟨b1, b2, b3, b4, b5, b6, b7, b8⟩ := hC
        exact ⟨b1.go (o 1 (by decide)).1 (o 10 (by decide)).1, b2.go (o 2 (by decide)).1 (o 0 (by decide)).1 (o 11 (by decide)).1, b3.go (o 3 (by decide)).1 (o 12 (by decide)).1, b4.go (o 4 (by decide)).1 (o 13 (by decide)).1, b5.go (o 5 (by decide)).1 (o 14 (by decide)).1 (o 15 (by decide)).1 (o 16 (by decide)).1, b6.go (o 6 (by decide)).1 (o 17 (by decide)).1 (o 18 (by decide)).1 (o 19 (by decide)).1 (o 20 (by decide)).1, b7.go (o 7 (by decide)).1 (o 21 (by decide)).1, a2⟩
      · obtain ⟨r1, r2, r3, r4, r5⟩ := hR.2.1
        generalize hKe : (fun (x3_14 : Int32) (x4_15 : Int32) (z_13 : Mem) => (fX9_reign_L165 (fun (x4_18 : Int32) (z_17 : Mem) => (some (x3_14, z_17) : Option (Int32 × Mem))) FU (0 : Int32) z_13)) = KE
        generalize hKb : (fun (x3_11 : Int32) (z_10 : Mem) => (fX9_reign_L56 KE (nI a) (nI lw) FU (0 : Int32) (0 : Int32) z_10)) = KB
        obtain ⟨y1, d1, -, d3, d4, d5⟩ := copy_loop (fX9_reign_L27 KB) KB 26 27 40 0 0 (fun x => True) (by decide)
          (fun n i x hp hi => by
            rw [fX9_reign_L27_s, if_neg (ge26 hi), rgs hi (by decide), lts, rgs hi (by decide), lts, lts, clamp (by omega), show nI i + (1 : Int32) = nI (i + 1) from nI_1 i, Nat.zero_add])
          (fun n x hp => by rw [fX9_reign_L27_s, if_pos (show (26 : Int32) ≤ nI 26 by decide)])
          (fun x i v hp => trivial) 26 0 y FU rfl fu26 trivial
        have e25 := d5 25 (by decide)
        obtain ⟨y2, f1, f2, f3, f4⟩ := year9 (lw := lw) hm hil hlw ha KE 12 0 y1 FU S.2.2 (S.2.1 1) (1000 + 72 * 512) 0 rfl (by unfold FU; decide) (by rw [e25.1]; exact r1) (by rw [e25.1]; exact r3) (by rw [e25.2]; exact hR.2.2.2.2.2.2.2) (by rw [(d5 27 (by decide)).1]; exact r5) hB (by omega) (by omega)
        generalize hRs : nI (0 + (yr (S.1 1) (S.1 3) lw a 12 S.2.2 (S.2.1 1)).1) = ans at f1 ⊢
        obtain ⟨y3, g1, -, g3, g4, g5⟩ := copy_loop (fX9_reign_L165 (fun (_ : Int32) (z_17 : Mem) => (some (ans, z_17) : Option (Int32 × Mem)))) (fun (_ : Int32) (z_17 : Mem) => (some (ans, z_17) : Option (Int32 × Mem))) 26 40 27 0 0 (fun x => True) (by decide)
          (fun n i x hp hi => by
            rw [fX9_reign_L165_s, if_neg (ge26 hi), rgs hi (by decide), lts, rgs hi (by decide), lts, lts, clamp (by omega), show nI i + (1 : Int32) = nI (i + 1) from nI_1 i, Nat.zero_add])
          (fun n x hp => by rw [fX9_reign_L165_s, if_pos (show (26 : Int32) ≤ nI 26 by decide)])
          (fun x i v hp => trivial) 26 0 y2 FU rfl fu26 trivial
        have oy : ∀ q, q ≠ 25 → q ≠ 27 → q ≠ 40 → y3.1 q = y.1 q := fun q h1 h2 h3 => by
          rw [(g5 q (by simp [h2])).1, (f3 q (by simp [h1, h2])).1, (d5 q (by simp [h3])).1]
        have o25 : y3.1 25 = y.1 25 := by rw [(g5 25 (by decide)).1, f4, e25.1]
        have o27 : holds (y3.1 27) (S.1 1) (S.2.1 1) := fun j hj => by
          have hj26 := ix26 hm hj
          have q1 := g3 j (Nat.zero_le j) hj26
          have q2 := d3 j (Nat.zero_le j) hj26
          rw [Nat.zero_add] at q1 q2
          rw [q1, (f3 40 (by decide)).1, q2]
          exact r5 j hj
        refine ⟨y3, ?_, ?_, ?_⟩
        · unfold fX9_reign
          have d1' : fX9_reign_L27 KB FU 0 y = KB (nI 26) y1 := d1
          have f1' : fX9_reign_L56 KE (nI a) (nI lw) FU 0 0 y1 = KE ans (nI 12) y2 := f1
          have g1' : fX9_reign_L165 (fun (_ : Int32) (z_17 : Mem) => (some (ans, z_17) : Option (Int32 × Mem))) FU 0 y2 = some (ans, y3) := g1
          rw [isP hm r1, cls, if_pos h, if_neg one0, in9i _ 0 2 rfl rfl, cls, if_pos g, if_neg one0, hKe, hKb, d1', ← hKb]
          show fX9_reign_L56 KE (nI a) (nI lw) FU 0 0 y1 = _
          rw [f1', ← hKe]
          exact g1'
        · obtain ⟨b1, b2, b3, b4, b5, b6, b7, b8⟩ := hR
          exact ⟨b1.go (by rw [o25]) (oy 28 (by decide) (by decide) (by decide)), ⟨by rw [o25]; exact b2.1, by rw [o25]; exact b2.2.1, by rw [o25]; exact b2.2.2.1, by rw [o25]; exact b2.2.2.2.1, o27⟩, b3.go (by rw [o25]) (by rw [o25]) (oy 29 (by decide) (by decide) (by decide)), b4.go (oy 41 (by decide) (by decide) (by decide)) (oy 42 (by decide) (by decide) (by decide)), b5.go (by rw [o25]) (oy 30 (by decide) (by decide) (by decide)) (oy 31 (by decide) (by decide) (by decide)) (oy 32 (by decide) (by decide) (by decide)), b6.go (by rw [o25]) (oy 33 (by decide) (by decide) (by decide)) (oy 34 (by decide) (by decide) (by decide)), b7.go (by rw [o25]) (oy 37 (by decide) (by decide) (by decide)), by show y3.2 25 30 = _; rw [(g5 25 (by decide)).2]; exact f2⟩
        · exact ((d5.C (by decide)).tr (f3.C (by decide))).tr (g5.C (by decide))
    · refine same hG hC (-2) ?_ fun y hR => ?_
      · unfold fX8_reign
        rw [hasP hm c1, cls, if_pos h, if_neg one0, isLaw8, cls, if_neg g, if_pos rfl]
      · unfold fX9_reign
        rw [isP hm hR.2.1.1, cls, if_pos h, if_neg one0, in9i w 0 2 rfl rfl, cls, if_neg g, if_pos rfl]
  · refine same hG hC (-1) ?_ fun y hR => ?_
    · unfold fX8_reign
      rw [hasP hm c1, cls, if_neg h, if_pos rfl]
    · unfold fX9_reign
      rw [isP hm hR.2.1.1, cls, if_neg h, if_pos rfl]
