/-! ===== weighings ===== -/
theorem nI_and (a b : Nat) : nI a &&& nI b = nI (a &&& b) := by
  apply Int32.toBitVec_inj.mp
  apply BitVec.eq_of_getLsbD_eq
  intro i hi
  show (BitVec.ofNat 32 a &&& BitVec.ofNat 32 b).getLsbD i = (BitVec.ofNat 32 (a &&& b)).getLsbD i
  rw [BitVec.getLsbD_and, BitVec.getLsbD_ofNat, BitVec.getLsbD_ofNat, BitVec.getLsbD_ofNat, Nat.testBit_and]
  simp [hi]
def bcv (p : Int32) : Int32 := (fun x0_1 : Int32 => (fun y_2 : Int32 => (fun x0_3 : Int32 => (fun x0_4 : Int32 => (fun x0_5 : Int32 => x0_5 &&& (63 : Int32)) ((x0_4 + ((x0_4.toUInt32 >>> ((16 : Int32).toUInt32 &&& Int32.toUInt32 31)).toInt32)) : Int32)) ((x0_3 + ((x0_3.toUInt32 >>> ((8 : Int32).toUInt32 &&& Int32.toUInt32 31)).toInt32)) : Int32)) (((y_2 + ((y_2.toUInt32 >>> ((4 : Int32).toUInt32 &&& Int32.toUInt32 31)).toInt32)) &&& (252645135 : Int32)) : Int32)) (((x0_1 &&& (858993459 : Int32)) + (((x0_1.toUInt32 >>> ((2 : Int32).toUInt32 &&& Int32.toUInt32 31)).toInt32) &&& (858993459 : Int32))) : Int32)) ((p - (((p.toUInt32 >>> ((1 : Int32).toUInt32 &&& Int32.toUInt32 31)).toInt32) &&& (1431655765 : Int32))) : Int32)
theorem bcv_f (p : Int32) (z : Mem) : fJ6_bitCount_0f7a4 p z = some (bcv p, z) := rfl
theorem bcv_9 : ∀ a, a < 512 → bcv (nI a) = nI (ones9 a) := by decide +kernel
theorem bit9 : ∀ a, a < 512 → ∀ k, k < 9 → ((nI a >>> (nI k &&& 31)) &&& (1 : Int32)) = nI (a / 2 ^ k % 2) := by decide +kernel
def on9 (a : Nat) : Nat → Nat
  | 0 => 0
  | k + 1 => on9 a k + a / 2 ^ k % 2
theorem on9_9 : ∀ a, a < 512 → on9 a 9 = ones9 a := by decide +kernel
theorem ones_L {a : Nat} (ha : a < 512) (K : Int32 → Int32 → Mem → Option (Int32 × Mem)) (z : Mem) : ∀ (d k n : Nat), k + d = 9 → d < n → fX9_ones_L4 K (nI a) n (nI (on9 a k)) (nI k) z = K (nI (on9 a 9)) (nI 9) z := by
  intro d
  induction d with
  | zero =>
    intro k n h1 h2
    obtain ⟨n, rfl⟩ : ∃ k, n = k + 1 := ⟨n - 1, by omega⟩
    obtain rfl : k = 9 := by omega
    rw [fX9_ones_L4_s, if_pos (show (9 : Int32) ≤ nI 9 by decide)]
  | succ d ih =>
    intro k n h1 h2
    obtain ⟨n, rfl⟩ : ∃ k, n = k + 1 := ⟨n - 1, by omega⟩
    rw [fX9_ones_L4_s, if_neg (show ¬ (9 : Int32) ≤ nI k from nI_ge (b := 9) (by omega) (by decide)), lts, lts, bit9 a ha k (by omega), nI_add, show nI k + (1 : Int32) = nI (k + 1) from nI_1 k]
    exact ih (k + 1) n (by omega) (by omega)
theorem ones_f {a : Nat} (ha : a < 512) (z : Mem) : fX9_ones (nI a) z = some (nI (ones9 a), z) := by
  have h := ones_L ha (fun (x1_3 : Int32) (x2_4 : Int32) (z_2 : Mem) => some (x1_3, z_2)) z 9 0 FU rfl (by unfold FU; decide)
  rw [on9_9 a ha] at h
  exact h
theorem ones9_le (a : Nat) : ones9 a ≤ 9 := by
  unfold ones9
  omega
/-- the sides may stand -/
def sides (p q : Int32) : Prop := (1 ≤ p.toInt ∧ p.toInt ≤ 511) ∧ (1 ≤ q.toInt ∧ q.toInt ≤ 511) ∧ p &&& q = 0 ∧ bcv p = bcv q
theorem mayStand_f (p q : Int32) (z : Mem) (d : Decidable (sides p q)) : fX6_mayStand p q z = some (if sides p q then 1 else 0, z) := by
  have a1 : p ≤ 0 ↔ p.toInt ≤ 0 := le32
  have a2 : (511 : Int32) < p ↔ 511 < p.toInt := lt32
  have a3 : q ≤ 0 ↔ q.toInt ≤ 0 := le32
  have a4 : (511 : Int32) < q ↔ 511 < q.toInt := lt32
  unfold fX6_mayStand
  rw [jns]
  dsimp only
  by_cases h1 : p ≤ 0
  · rw [if_pos h1, if_pos rfl, if_neg (fun s => by have := a1.mp h1; have := s.1; omega)]
  · have h1' : ¬ p.toInt ≤ 0 := fun t => h1 (a1.mpr t)
    rw [if_neg h1]
    by_cases h2 : (511 : Int32) < p
    · rw [if_pos h2, if_pos rfl, if_neg (fun s => by have := a2.mp h2; have := s.1; omega)]
    · have h2' : ¬ 511 < p.toInt := fun t => h2 (a2.mpr t)
      rw [if_neg h2]
      by_cases h3 : q ≤ 0
      · rw [if_pos h3, if_pos rfl, if_neg (fun s => by have := a3.mp h3; have := s.2.1; omega)]
      · have h3' : ¬ q.toInt ≤ 0 := fun t => h3 (a3.mpr t)
        rw [if_neg h3]
        by_cases h4 : (511 : Int32) < q
        · rw [if_pos h4, if_pos rfl, if_neg (fun s => by have := a4.mp h4; have := s.2.1; omega)]
        · have h4' : ¬ 511 < q.toInt := fun t => h4 (a4.mpr t)
          rw [if_neg h4, if_neg one0]
          by_cases h5 : p &&& q = 0
          · rw [if_pos h5, bcv_f, cls, bcv_f, cls]
            by_cases h6 : bcv p = bcv q
            · rw [if_pos h6, if_pos ⟨by omega, by omega, h5, h6⟩]
            · rw [if_neg h6, if_neg (fun s => h6 s.2.2.2)]
          · rw [if_neg h5, if_neg (fun s => h5 s.2.2.1)]
theorem ok_weigh (p q c : Int32) : Ok (fX8_weigh p q c) (fX9_weigh p q c) := by
  refine ok_of fun k S z hk hG hC => ?_
  have d : Decidable (sides p q) := Classical.propDecidable _
  have a3 : c < 0 ↔ c.toInt < 0 := lt32
  have a4 : c ≤ (2 : Int32) ↔ c.toInt ≤ 2 := le32
  by_cases h : sides p q
  · have hs := h
    obtain ⟨s1, s2, s3, s4⟩ := h
    by_cases g : 0 ≤ c.toInt ∧ c.toInt ≤ 2
    · have b3 : ¬ c < 0 := fun q => by have := a3.mp q; omega
      have b4 : c ≤ (2 : Int32) := a4.mpr g.2
      have hm8 : ∀ z, fX6_mayStand p q z = some (1, z) := fun z => by rw [mayStand_f p q z d, if_pos hs]
      obtain ⟨a, ha1, ha2, rfl⟩ := rng_of (lo := 1) (hi := 511) s1
      obtain ⟨b, hb1, hb2, rfl⟩ := rng_of (lo := 1) (hi := 511) s2
      obtain ⟨e, he1, he2, rfl⟩ := rng_of (lo := 0) (hi := 2) g
      have hon : ones9 a = ones9 b := by
        rw [bcv_9 a (by omega), bcv_9 b (by omega)] at s4
        have := ones9_le a
        have := ones9_le b
        exact (nI_eq (by omega) (by omega)).mp s4
      have hon' : nI (ones9 a) = nI (ones9 b) := by rw [hon]
      have hdis : a &&& b = 0 := by
        have h0 := s3
        rw [nI_and] at h0
        have : a &&& b ≤ a := Nat.and_le_left
        exact (nI_eq (by omega) (by decide)).mp h0
      have hr := hG.2.2.2.2.1.1
      by_cases h8' : S.1 6 = 10
      · refine same hG hC (-4) ?_ fun y hR => ?_
        · unfold fX8_weigh fX6_append
          rw [hm8, cls, if_neg one0, if_neg b3, if_pos b4, hC.2.2.2.2.1.1, h8', if_pos (show nI 10 = (10 : Int32) from rfl), cls, if_pos rfl]
        · unfold fX9_weigh
          rw [in9i _ 1 511 rfl rfl, cls, if_pos s1, if_neg one0, in9i _ 1 511 rfl rfl, cls, if_pos s2, if_neg one0, if_pos s3, ones_f (by omega), cls, ones_f (by omega), cls, if_pos hon', in9i _ 0 2 rfl rfl, cls, if_pos g, if_neg one0, hR.2.2.2.2.1.1, h8', if_pos (show nI 10 = (10 : Int32) from rfl)]
      · have hne : ¬ nI (S.1 6) = (10 : Int32) := fun e => h8' ((nI_eq (by omega) (by decide)).mp e)
        refine ⟨nI (S.1 6 + 1), sI (sI (sI (sI z 14 (S.1 6) (nI a)) 15 (S.1 6) (nI b)) 16 (S.1 6) (nI e)) 5 3 (nI (S.1 6 + 1)), sT (sT (sT (sS S 6 (S.1 6 + 1)) 4 (fun i => if i = S.1 6 then a else S.2.1 4 i)) 5 (fun i => if i = S.1 6 then b else S.2.1 5 i)) 6 (fun i => if i = S.1 6 then e else S.2.1 6 i), ?_, ?_, (((AgM.sI z _ _ (by decide)).tr (AgM.sI _ _ _ (by decide))).tr (AgM.sI _ _ _ (by decide))).tr (AgM.sI _ _ _ (by decide)), ?_, fun y hR => ⟨sI (sI (sI (sI y 30 (S.1 6) (nI a)) 31 (S.1 6) (nI b)) 32 (S.1 6) (nI e)) 25 17 (nI (S.1 6 + 1)), ?_, ?_, (((AgC.sI y _ _ (by decide)).tr (AgC.sI _ _ _ (by decide))).tr (AgC.sI _ _ _ (by decide))).tr (AgC.sI _ _ _ (by decide))⟩⟩
        · unfold fX8_weigh fX6_append fX6_length
          have e1 : ∀ v, (sI z 14 (S.1 6) v).1 5 3 = nI (S.1 6) := fun v => hC.2.2.2.2.1.1
          have e2 : ∀ v w, (sI (sI z 14 (S.1 6) v) 15 (S.1 6) w).1 5 3 = nI (S.1 6) := fun v w => hC.2.2.2.2.1.1
          have e3 : ∀ v w u, (sI (sI (sI z 14 (S.1 6) v) 15 (S.1 6) w) 16 (S.1 6) u).1 5 3 = nI (S.1 6) := fun v w u => hC.2.2.2.2.1.1
          rw [hm8, cls, if_neg one0, if_neg b3, if_pos b4, hC.2.2.2.2.1.1, if_neg hne, rgs (by omega) (by decide), lts, clamp (by omega), e1, rgs (by omega) (by decide), lts, clamp (by omega), e2, rgs (by omega) (by decide), lts, clamp (by omega), e3, lts, lts, cls, if_neg one0, cls, show nI (S.1 6) + (1 : Int32) = nI (S.1 6 + 1) from nI_1 _]
          rfl
        · obtain ⟨h1, h2, h3, h4', h5, h6, h7, h8⟩ := hC
          exact ⟨h1, h2, h3, h4', ⟨rfl, fun j hj => ⟨upd_in (fun j hj => (h5.2 j hj).1) hj, upd_in (fun j hj => (h5.2 j hj).2.1) hj, upd_in (fun j hj => (h5.2 j hj).2.2) hj⟩⟩, h6, h7, h8⟩
        · obtain ⟨h1, h2, h3, h4', h5, h6⟩ := hG.up
          refine ⟨h1, h2, h3, h4', ⟨by show S.1 6 + 1 ≤ 10; omega, fun j hj => ?_⟩, h6⟩
          show wOk (if j = S.1 6 then a else S.2.1 4 j) (if j = S.1 6 then b else S.2.1 5 j) (if j = S.1 6 then e else S.2.1 6 j)
          have hj : j < S.1 6 + 1 := hj
          by_cases e : j = S.1 6
          · rw [if_pos e, if_pos e, if_pos e]; exact ⟨ha1, ha2, hb1, hb2, hdis, hon, he2⟩
          · rw [if_neg e, if_neg e, if_neg e]; exact h5.2 j (by omega)
        · unfold fX9_weigh
          have e1 : ∀ v, (sI y 30 (S.1 6) v).1 25 17 = nI (S.1 6) := fun v => hR.2.2.2.2.1.1
          have e2 : ∀ v w, (sI (sI y 30 (S.1 6) v) 31 (S.1 6) w).1 25 17 = nI (S.1 6) := fun v w => hR.2.2.2.2.1.1
          have e3 : ∀ v w u, (sI (sI (sI y 30 (S.1 6) v) 31 (S.1 6) w) 32 (S.1 6) u).1 25 17 = nI (S.1 6) := fun v w u => hR.2.2.2.2.1.1
          rw [in9i _ 1 511 rfl rfl, cls, if_pos s1, if_neg one0, in9i _ 1 511 rfl rfl, cls, if_pos s2, if_neg one0, if_pos s3, ones_f (by omega), cls, ones_f (by omega), cls, if_pos hon', in9i _ 0 2 rfl rfl, cls, if_pos g, if_neg one0, hR.2.2.2.2.1.1, if_neg hne, rgs (by omega) (by decide), lts, clamp (by omega), e1, rgs (by omega) (by decide), lts, clamp (by omega), e2, rgs (by omega) (by decide), lts, clamp (by omega), e3, lts, lts, show nI (S.1 6) + (1 : Int32) = nI (S.1 6 + 1) from nI_1 _]
          rfl
        · obtain ⟨h1, h2, h3, h4', h5, h6, h7, h8⟩ := hR
          exact ⟨h1, h2, h3, h4', ⟨rfl, fun j hj => ⟨upd_in (fun j hj => (h5.2 j hj).1) hj, upd_in (fun j hj => (h5.2 j hj).2.1) hj, upd_in (fun j hj => (h5.2 j hj).2.2) hj⟩⟩, h6, h7, h8⟩
    · refine same hG hC (-2) ?_ fun y hR => ?_
      · unfold fX8_weigh
        rw [mayStand_f p q z d, cls, if_pos hs, if_neg one0]
        by_cases q : c < 0
        · rw [if_pos q]
        · have q' : ¬ c.toInt < 0 := fun t => q (a3.mpr t)
          rw [if_neg q, if_neg (fun q => by have := a4.mp q; omega)]
      · obtain ⟨a, ha1, ha2, rfl⟩ := rng_of (lo := 1) (hi := 511) s1
        obtain ⟨b, hb1, hb2, rfl⟩ := rng_of (lo := 1) (hi := 511) s2
        rw [bcv_9 a (by omega), bcv_9 b (by omega)] at s4
        unfold fX9_weigh
        rw [in9i _ 1 511 rfl rfl, cls, if_pos s1, if_neg one0, in9i _ 1 511 rfl rfl, cls, if_pos s2, if_neg one0, if_pos s3, ones_f (by omega), cls, ones_f (by omega), cls, if_pos s4, in9i _ 0 2 rfl rfl, cls, if_neg g, if_pos rfl]
  · refine same hG hC (-2) ?_ fun y hR => ?_
    · unfold fX8_weigh
      rw [mayStand_f p q z d, cls, if_neg h, if_pos rfl]
    · unfold fX9_weigh
      by_cases s1 : 1 ≤ p.toInt ∧ p.toInt ≤ 511
      · by_cases s2 : 1 ≤ q.toInt ∧ q.toInt ≤ 511
        · by_cases s3 : p &&& q = 0
          · have s4 : ¬ bcv p = bcv q := fun s4 => h ⟨s1, s2, s3, s4⟩
            obtain ⟨a, ha1, ha2, rfl⟩ := rng_of (lo := 1) (hi := 511) s1
            obtain ⟨b, hb1, hb2, rfl⟩ := rng_of (lo := 1) (hi := 511) s2
            rw [bcv_9 a (by omega), bcv_9 b (by omega)] at s4
            rw [in9i _ 1 511 rfl rfl, cls, if_pos s1, if_neg one0, in9i _ 1 511 rfl rfl, cls, if_pos s2, if_neg one0, if_pos s3, ones_f (by omega), cls, ones_f (by omega), cls, if_neg s4]
          · rw [in9i _ 1 511 rfl rfl, cls, if_pos s1, if_neg one0, in9i _ 1 511 rfl rfl, cls, if_pos s2, if_neg one0, if_neg s3]
        · rw [in9i _ 1 511 rfl rfl, cls, if_pos s1, if_neg one0, in9i _ 1 511 rfl rfl, cls, if_neg s2, if_pos rfl]
      · rw [in9i _ 1 511 rfl rfl, cls, if_neg s1, if_pos rfl]
