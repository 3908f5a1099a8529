/-! ===== the text grows ===== -/
def byteN (v : Int64) (t : Nat) : Nat := v.toBitVec.toNat / 2 ^ (8 * t) % 256
theorem byteN_lt (v : Int64) (t : Nat) : byteN v t < 256 := Nat.mod_lt _ (by decide)
theorem sh8c : ∀ t, t < 8 → ((nI (8 * t)).toInt64.toUInt64 &&& Int64.toUInt64 63) = UInt64.ofNat (8 * t) := by decide
theorem sh8m : ∀ t, t < 8 → ((((nI (8 * t)).toInt64 &&& 63).toBitVec).smod 64).toNat = 8 * t := by decide
theorem low32 (x : Int64) : x.toInt32.toBitVec.toNat = x.toBitVec.toNat % 2 ^ 32 := by
  rw [Int64.toBitVec_toInt32, BitVec.signExtend_eq_setWidth_of_le _ (by decide), BitVec.toNat_setWidth]
theorem byte8 (v : Int64) {t : Nat} (h : t < 8) : (((v.toUInt64 >>> (((8 : Int32) * nI t).toInt64.toUInt64 &&& Int64.toUInt64 63)).toInt64).toInt32) &&& (255 : Int32) = nI (byteN v t) := by
  rw [k8, sh8c t h, pk_and _ 8 (by decide), low32]
  congr 1
  have e : (v.toUInt64 >>> UInt64.ofNat (8 * t)).toInt64.toBitVec.toNat = v.toBitVec.toNat / 2 ^ (8 * t) := by
    show (v.toUInt64 >>> UInt64.ofNat (8 * t)).toNat = _
    rw [UInt64.toNat_shiftRight, UInt64.toNat_ofNat', Nat.mod_eq_of_lt (show 8 * t < 2 ^ 64 by omega), Nat.mod_eq_of_lt (show 8 * t < 64 by omega), Nat.shiftRight_eq_div_pow]
    rfl
  rw [e]
  unfold byteN
  exact Nat.mod_mod_of_dvd _ (by decide)
theorem b255 : ∀ i, i < 64 → (255#64).getLsbD i = decide (i < 8) := by decide
theorem byte9 (v : Int64) {t : Nat} (h : t < 8) : ((v >>> (((8 : Int32) * nI t).toInt64 &&& 63)) &&& (255 : Int64)).toInt32 = nI (byteN v t) := by
  rw [k8]
  have e : ((v >>> ((nI (8 * t)).toInt64 &&& 63)) &&& (255 : Int64)).toBitVec = (v.toBitVec >>> (8 * t)) &&& 255#64 := by
    rw [Int64.toBitVec_and, Int64.toBitVec_shiftRight]
    show (v.toBitVec.sshiftRight (((nI (8 * t)).toInt64 &&& 63).toBitVec.smod 64).toNat) &&& 255#64 = _
    rw [sh8m t h]
    apply BitVec.eq_of_getLsbD_eq
    intro i hi
    rw [BitVec.getLsbD_and, BitVec.getLsbD_and, b255 i hi]
    by_cases q : i < 8
    · rw [BitVec.getLsbD_sshiftRight, BitVec.getLsbD_ushiftRight]
      have : ¬ 64 ≤ i := by omega
      simp [this, show 8 * t + i < 64 by omega]
    · simp [q]
  have n : ((v >>> ((nI (8 * t)).toInt64 &&& 63)) &&& (255 : Int64)).toBitVec.toNat = byteN v t := by
    rw [e, BitVec.toNat_and, BitVec.toNat_ushiftRight, show (255#64).toNat = 2 ^ 8 - 1 from rfl, Nat.and_two_pow_sub_one_eq_mod, Nat.shiftRight_eq_div_pow]
    rfl
  apply Int32.toBitVec_inj.mp
  apply BitVec.eq_of_toNat_eq
  rw [low32, n, pk_tn (by have := byteN_lt v t; omega)]
  have := byteN_lt v t
  omega
theorem app8 (K : Int32 → Mem → Option (Int32 × Mem)) (v : Int64) : ∀ (u : Nat) (z : Mem) (n l : Nat), u < n → z.1 1 1 = nI l → l + u ≤ 48 → u ≤ 8 → ∃ z1, fX1_append_L18 K v n (nI u - 1) z = K (-1) z1 ∧ z1.1 1 1 = nI (l + u) ∧ (∀ j, j < l → z1.1 10 j = z.1 10 j) ∧ (∀ j, j < u → z1.1 10 (l + j) = nI (byteN v (u - 1 - j))) ∧ Out [1, 10] z z1 := by
  intro u
  induction u with
  | zero =>
    intro z n l h1 h2 h3 h4
    obtain ⟨n, rfl⟩ : ∃ k, n = k + 1 := ⟨n - 1, by omega⟩
    exact ⟨z, by rw [fX1_append_L18_s, if_pos (show nI 0 - 1 < (0 : Int32) by decide)]; rfl, h2, fun j _ => rfl, fun j hj => absurd hj (by omega), Out.rf _ z⟩
  | succ u ih =>
    intro z n l h1 h2 h3 h4
    obtain ⟨n, rfl⟩ : ∃ k, n = k + 1 := ⟨n - 1, by omega⟩
    obtain ⟨z1, a1, a2, a3, a4, a5⟩ := ih (sI (sI z 10 l (nI (byteN v u))) 1 1 (nI (l + 1))) n (l + 1) (by omega) rfl (by omega) (by omega)
    refine ⟨z1, ?_, by rw [a2, show l + 1 + u = l + (u + 1) by omega], fun j hj => ?_, fun j hj => ?_, ((Out.sI [1, 10] z _ _ (by decide)).tr (Out.sI _ _ _ _ (by decide))).tr a5⟩
    · have e1 : ∀ w, (sI z 10 l w).1 1 1 = nI l := fun w => h2
      rw [nI_pred, fX1_append_L18_s, if_neg (nI_pos (by omega)), byte8 v (by omega), lts, h2, rgs (by omega) (by decide), lts, lts, lts, lts, clamp (by omega), e1, show nI l + (1 : Int32) = nI (l + 1) from nI_1 l, nsub, ← a1]
    · rw [a3 j (by omega)]
      show upd (z.1 10) l _ j = _
      rw [up1, if_neg (by omega)]
    · by_cases e : j = 0
      · subst e
        rw [Nat.add_zero, a3 l (by omega)]
        show upd (z.1 10) l _ l = _
        rw [up1, if_pos rfl, show u + 1 - 1 - 0 = u by omega]
      · rw [show l + j = l + 1 + (j - 1) by omega, a4 (j - 1) (by omega), show u - 1 - (j - 1) = u + 1 - 1 - j by omega]
theorem app9 (K : Int32 → Mem → Option (Int32 × Mem)) (v : Int64) : ∀ (u : Nat) (z : Mem) (n l : Nat), u < n → z.1 25 11 = nI l → l + u ≤ 48 → u ≤ 8 → ∃ z1, fX9_write_L34 K v n (nI u - 1) z = K (-1) z1 ∧ z1.1 25 11 = nI (l + u) ∧ (∀ j, j < l → z1.1 28 j = z.1 28 j) ∧ (∀ j, j < u → z1.1 28 (l + j) = nI (byteN v (u - 1 - j))) ∧ Out [25, 28] z z1 ∧ (∀ k, k ≠ 11 → z1.1 25 k = z.1 25 k) ∧ z1.2 = z.2 := by
  intro u
  induction u with
  | zero =>
    intro z n l h1 h2 h3 h4
    obtain ⟨n, rfl⟩ : ∃ k, n = k + 1 := ⟨n - 1, by omega⟩
    exact ⟨z, by rw [fX9_write_L34_s, if_pos (show nI 0 - 1 < (0 : Int32) by decide)]; rfl, h2, fun j _ => rfl, fun j hj => absurd hj (by omega), Out.rf _ z, fun _ _ => rfl, rfl⟩
  | succ u ih =>
    intro z n l h1 h2 h3 h4
    obtain ⟨n, rfl⟩ : ∃ k, n = k + 1 := ⟨n - 1, by omega⟩
    obtain ⟨z1, a1, a2, a3, a4, a5, a6, a7⟩ := ih (sI (sI z 28 l (nI (byteN v u))) 25 11 (nI (l + 1))) n (l + 1) (by omega) rfl (by omega) (by omega)
    refine ⟨z1, ?_, by rw [a2, show l + 1 + u = l + (u + 1) by omega], fun j hj => ?_, fun j hj => ?_, ((Out.sI [25, 28] z _ _ (by decide)).tr (Out.sI _ _ _ _ (by decide))).tr a5, fun k hk => ?_, a7⟩
    · have e1 : ∀ w, (sI z 28 l w).1 25 11 = nI l := fun w => h2
      rw [nI_pred, fX9_write_L34_s, if_neg (nI_pos (by omega)), byte9 v (by omega), lts, h2, rgs (by omega) (by decide), lts, lts, lts, lts, clamp (by omega), e1, show nI l + (1 : Int32) = nI (l + 1) from nI_1 l, nsub, ← a1]
    · rw [a3 j (by omega)]
      show upd (z.1 28) l _ j = _
      rw [up1, if_neg (by omega)]
    · by_cases e : j = 0
      · subst e
        rw [Nat.add_zero, a3 l (by omega)]
        show upd (z.1 28) l _ l = _
        rw [up1, if_pos rfl, show u + 1 - 1 - 0 = u by omega]
      · rw [show l + j = l + 1 + (j - 1) by omega, a4 (j - 1) (by omega), show u - 1 - (j - 1) = u + 1 - 1 - j by omega]
    · rw [a6 k hk]
      show upd (z.1 25) 11 _ k = _
      rw [up1, if_neg hk]
theorem ok_write (p : Int32) (v : Int64) : Ok (fX8_write p v) (fX9_write p v) := by
  refine ok_of fun k S z hk hG hC => ?_
  have hl := hG.1.1
  have a1 : p < (1 : Int32) ↔ p.toInt < 1 := lt32
  have a2 : p ≤ (8 : Int32) ↔ p.toInt ≤ 8 := le32
  by_cases h : 1 ≤ p.toInt ∧ p.toInt ≤ 8
  · have b1 : ¬ p < (1 : Int32) := fun q => by have := a1.mp q; omega
    have b2 : p ≤ (8 : Int32) := a2.mpr h.2
    obtain ⟨n, hn1, hn2, rfl⟩ := rng_of (lo := 1) (hi := 8) h
    have s48 : (48 : Int32) - nI (S.1 0) = nI (48 - S.1 0) := pk_sub (a := 48) hl
    have fu : n < FU := by unfold FU; omega
    by_cases q : S.1 0 + n ≤ 48
    · obtain ⟨z1, d1, d2, d3, d4, d5⟩ := app8 (fun (_ : Int32) (z_4 : Mem) => some ((1 : Int32), z_4)) v n z FU (S.1 0) fu hC.1.1 q hn2
      refine ⟨nI (S.1 0 + n), z1, sT (sS S 0 (S.1 0 + n)) 0 (fun j => if S.1 0 ≤ j then byteN v (n - 1 - (j - S.1 0)) else S.2.1 0 j), ?_, ?_, d5.M (by decide), ?_, fun y hR => ?_⟩
      · unfold fX8_write fX1_append fX1_length
        rw [if_neg b1, if_pos b2, hC.1.1, s48, if_pos (nI_le (by omega) (by omega)), lts, d1, cls, if_neg one0, cls, d2]
      · obtain ⟨e1, e2, e3, e4, e5, e6, e7, e8⟩ := hC
        refine ⟨⟨d2, fun j hj => ?_⟩, e2.go (d5 2 (by decide)).1 (d5 0 (by decide)).1 (d5 11 (by decide)).1, e3.go (d5 3 (by decide)).1 (d5 12 (by decide)).1, e4.go (d5 4 (by decide)).1 (d5 13 (by decide)).1, e5.go (d5 5 (by decide)).1 (d5 14 (by decide)).1 (d5 15 (by decide)).1 (d5 16 (by decide)).1, e6.go (d5 6 (by decide)).1 (d5 17 (by decide)).1 (d5 18 (by decide)).1 (d5 19 (by decide)).1 (d5 20 (by decide)).1, e7.go (d5 7 (by decide)).1 (d5 21 (by decide)).1, e8.go (d5 8 (by decide)).2⟩
        have hj : j < S.1 0 + n := hj
        show z1.1 10 j = nI (if S.1 0 ≤ j then byteN v (n - 1 - (j - S.1 0)) else S.2.1 0 j)
        by_cases w : S.1 0 ≤ j
        · rw [if_pos w]
          have := d4 (j - S.1 0) (by omega)
          rw [show S.1 0 + (j - S.1 0) = j by omega] at this
          exact this
        · rw [if_neg w, d3 j (by omega)]
          exact e1.2 j (by omega)
      · obtain ⟨e1, e2⟩ := hG.up
        refine ⟨⟨q, fun j hj => ?_⟩, e2⟩
        have hj : j < S.1 0 + n := hj
        show (if S.1 0 ≤ j then byteN v (n - 1 - (j - S.1 0)) else S.2.1 0 j) < 256
        split
        · exact byteN_lt _ _
        · exact e1.2 j (by omega)
      · obtain ⟨y1, f1, f2, f3, f4, f5, f6, f7⟩ := app9 (fun (_ : Int32) (z_8 : Mem) => some ((z_8.1 25 11), z_8)) v n y FU (S.1 0) fu hR.1.1 q hn2
        refine ⟨y1, ?_, ?_, f5.C (by decide)⟩
        · unfold fX9_write
          rw [in9i _ 1 8 rfl rfl, cls, if_pos h, if_neg one0, hR.1.1, nI_add, if_pos (show nI (S.1 0 + n) ≤ (48 : Int32) from nI_le (b := 48) q (by decide)), lts, f1, f2]
        · obtain ⟨e1, e2, e3, e4, e5, e6, e7, e8⟩ := hR
          refine ⟨⟨f2, fun j hj => ?_⟩, e2.go (f6 6 (by decide)) (f6 8 (by decide)) (f6 9 (by decide)) (f6 7 (by decide)) (f5 27 (by decide)).1, e3.go (f6 15 (by decide)) (f6 14 (by decide)) (f5 29 (by decide)).1, e4.go (f5 41 (by decide)).1 (f5 42 (by decide)).1, e5.go (f6 17 (by decide)) (f5 30 (by decide)).1 (f5 31 (by decide)).1 (f5 32 (by decide)).1, e6.go (f6 21 (by decide)) (f5 33 (by decide)).1 (f5 34 (by decide)).1, e7.go (f6 26 (by decide)) (f5 37 (by decide)).1, e8.go (by rw [f7])⟩
          have hj : j < S.1 0 + n := hj
          show y1.1 28 j = nI (if S.1 0 ≤ j then byteN v (n - 1 - (j - S.1 0)) else S.2.1 0 j)
          by_cases w : S.1 0 ≤ j
          · rw [if_pos w]
            have := f4 (j - S.1 0) (by omega)
            rw [show S.1 0 + (j - S.1 0) = j by omega] at this
            exact this
          · rw [if_neg w, f3 j (by omega)]
            exact e1.2 j (by omega)
    · refine same hG hC (-4) ?_ fun y hR => ?_
      · unfold fX8_write fX1_append
        rw [if_neg b1, if_pos b2, hC.1.1, s48, if_neg (nI_ge (by omega) (by omega)), cls, if_pos rfl]
      · unfold fX9_write
        rw [in9i _ 1 8 rfl rfl, cls, if_pos h, if_neg one0, hR.1.1, nI_add, if_neg (show ¬ nI (S.1 0 + n) ≤ (48 : Int32) from nI_ge (a := 48) (by omega) (by omega))]
  · refine same hG hC (-2) ?_ fun y hR => ?_
    · unfold fX8_write
      by_cases q : p < (1 : Int32)
      · rw [if_pos q]
      · have q' : ¬ p.toInt < 1 := fun t => q (a1.mpr t)
        rw [if_neg q, if_neg (fun r => by have := a2.mp r; omega)]
    · unfold fX9_write
      rw [in9i _ 1 8 rfl rfl, cls, if_neg h, if_pos rfl]
