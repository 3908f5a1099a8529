/-! ===== refusals, people ===== -/
theorem lt64 {a b : Int64} : a < b ↔ a.toInt < b.toInt := Int64.lt_iff_toInt_lt
theorem lt32 {a b : Int32} : a < b ↔ a.toInt < b.toInt := Int32.lt_iff_toInt_lt
theorem le32 {a b : Int32} : a ≤ b ↔ a.toInt ≤ b.toInt := Int32.le_iff_toInt_le
theorem in9 (a b c : Int64) (z : Mem) : fX9_in a b c z = some (if b.toInt ≤ a.toInt ∧ a.toInt ≤ c.toInt then 1 else 0, z) := by
  unfold fX9_in
  by_cases h1 : lg_cmp a b < 0
  · rw [if_pos h1]
    have h := lt64.mp ((lg_cmp_lt a b).mp h1)
    rw [if_neg (by omega)]
  · rw [if_neg h1]
    have h : ¬ a.toInt < b.toInt := fun h => h1 ((lg_cmp_lt a b).mpr (lt64.mpr h))
    by_cases h2 : 0 < lg_cmp a c
    · rw [if_pos h2]
      have g := lt64.mp ((lg_cmp_gt a c).mp h2)
      rw [if_neg (by omega)]
    · rw [if_neg h2]
      have g : ¬ c.toInt < a.toInt := fun h => h2 ((lg_cmp_gt a c).mpr (lt64.mpr h))
      rw [if_pos (by omega)]
theorem in9i (p : Int32) {b c : Int64} (lo hi : Int) (hb : b.toInt = lo) (hc : c.toInt = hi) (z : Mem) : fX9_in p.toInt64 b c z = some (if lo ≤ p.toInt ∧ p.toInt ≤ hi then 1 else 0, z) := by
  rw [in9, hb, hc, Int32.toInt_toInt64]
theorem one0 : ¬ (1 : Int32) = 0 := by decide
theorem bos {c : Prop} [Decidable c] {β : Type} (k : Option β) : bo (if c then (1 : Int32) else 0) k = k := by
  unfold bo
  by_cases h : c
  · rw [if_pos h]; rfl
  · rw [if_neg h]; rfl
/-- there is such a person -/
abbrev isp (p : Int32) (m : Nat) : Prop := 0 ≤ p.toInt ∧ p.toInt ≤ (m : Int) - 1
theorem isP {m : Nat} (hm : m ≤ 5) {z : Mem} (h : z.1 25 6 = nI m) (p : Int32) : fX9_isPerson p z = some (if isp p m then 1 else 0, z) := by
  unfold fX9_isPerson
  rw [h, in9i p 0 ((m : Int) - 1) rfl (by rw [Int32.toInt_toInt64]; exact pk_sub_toInt (a := m) (b := 1) (by omega) (by decide)), cls, bos]
theorem hasP {m : Nat} (hm : m ≤ 5) {z : Mem} (h : z.1 2 1 = nI m) (p : Int32) : fX2_has p z = some (if isp p m then 1 else 0, z) := by
  unfold fX2_has isp
  rw [h]
  have e0 : p < 0 ↔ p.toInt < 0 := lt32
  have e1 : nI m ≤ p ↔ (m : Int) ≤ p.toInt := by rw [le32, nI_toInt (by omega)]
  by_cases h1 : p < 0
  · have g1 := e0.mp h1
    rw [if_pos h1, if_neg (by omega)]
  · have g1 : ¬ p.toInt < 0 := fun h => h1 (e0.mpr h)
    rw [if_neg h1]
    by_cases h2 : nI m ≤ p
    · have g2 := e1.mp h2
      rw [if_pos h2, if_neg (by omega)]
    · have g2 : ¬ (m : Int) ≤ p.toInt := fun h => h2 (e1.mpr h)
      rw [if_neg h2, if_pos (by omega)]
theorem isp_of {p : Int32} {m : Nat} (h : isp p m) : ∃ n, n < m ∧ p = nI n := by
  obtain ⟨n, hn, rfl⟩ := nI_of (x := p) (fun q => by have q : p.toInt < 0 := lt32.mp q; have := h.1; omega)
  rw [isp, nI_toInt hn] at h
  exact ⟨n, by omega, rfl⟩
theorem isp_nI {n m : Nat} (h : n < m) (hm : m ≤ 5) : isp (nI n) m := by
  rw [isp, nI_toInt (by omega)]
  omega
theorem rng_of {p : Int32} {lo hi : Nat} (h : (lo : Int) ≤ p.toInt ∧ p.toInt ≤ (hi : Int)) : ∃ n, lo ≤ n ∧ n ≤ hi ∧ p = nI n := by
  obtain ⟨n, hn, rfl⟩ := nI_of (x := p) (fun q => by have q : p.toInt < 0 := lt32.mp q; have := h.1; omega)
  rw [nI_toInt hn] at h
  exact ⟨n, by omega, by omega, rfl⟩
theorem e5c (p c : Nat) : nI p * (5 : Int32) + nI c = nI (5 * p + c) := by rw [show (5 : Int32) = nI 5 from rfl, pk_mul, nI_add, Nat.mul_comm]
theorem c5 (p c : Nat) : (5 : Int32) * nI p + nI c = nI (5 * p + c) := by rw [show (5 : Int32) = nI 5 from rfl, pk_mul, nI_add]
theorem c50 (p : Nat) : (5 : Int32) * nI p = nI (5 * p) := by rw [show (5 : Int32) = nI 5 from rfl, pk_mul]
theorem get2 {p c : Nat} (h : 5 * p + c < 25) (z : Mem) : fX2_get_2 (nI p) (nI c) z = some (z.1 11 (5 * p + c), z) := by
  unfold fX2_get_2
  rw [lts, e5c, if_neg (nI_pos (by omega)), if_neg (show ¬ (25 : Int32) ≤ nI (5 * p + c) from nI_ge (b := 25) h (by decide)), rgs (by omega) (by decide), lts, clamp (by omega)]
theorem get9 {p c : Nat} (h : 5 * p + c < 25) (z : Mem) : fX2_get_9 (nI p) (nI c) z = some (z.1 24 (5 * p + c), z) := by
  unfold fX2_get_9
  rw [lts, e5c, if_neg (nI_pos (by omega)), if_neg (show ¬ (25 : Int32) ≤ nI (5 * p + c) from nI_ge (b := 25) h (by decide)), rgs (by omega) (by decide), lts, clamp (by omega)]
theorem add2 {p c : Nat} (h : 5 * p + c < 25) (v : Int32) (z : Mem) : fX2_add_2 (nI p) (nI c) v z = some ((), sI z 11 (5 * p + c) (z.1 11 (5 * p + c) + v)) := by
  unfold fX2_add_2
  rw [lts, e5c, if_neg (nI_pos (by omega)), if_neg (show ¬ (25 : Int32) ≤ nI (5 * p + c) from nI_ge (b := 25) h (by decide)), rgs (by omega) (by decide), lts, lts, rgs (by omega) (by decide), lts, clamp (by omega)]
theorem add9 {p c : Nat} (h : 5 * p + c < 25) (v : Int32) (z : Mem) : fX2_add_9 (nI p) (nI c) v z = some ((), sI z 24 (5 * p + c) (z.1 24 (5 * p + c) + v)) := by
  unfold fX2_add_9
  rw [lts, e5c, if_neg (nI_pos (by omega)), if_neg (show ¬ (25 : Int32) ≤ nI (5 * p + c) from nI_ge (b := 25) h (by decide)), rgs (by omega) (by decide), lts, lts, rgs (by omega) (by decide), lts, clamp (by omega)]
/-- a reference's cell -/
theorem rd {β : Type} {j : Nat} (h : j < 26) (k : Option β) : rg (nI j) 26 k = k := rgs h (by decide) k
/-- what one weighs at noon -/
def nw (c : Nat → Nat) (p : Nat) : Nat := c (5 * p) + (8 * c (5 * p + 1) + 10 * c (5 * p + 2))
/-- a row of cells that holds numbers -/
def holds (f : Nat → Int32) (m : Nat) (c : Nat → Nat) : Prop := ∀ j, ix m j → f j = nI (c j)
theorem holds.at {f : Nat → Int32} {m : Nat} {c : Nat → Nat} (h : holds f m c) {p k : Nat} (hp : p < m) (hk : k < 5) : f (5 * p + k) = nI (c (5 * p + k)) := h _ (Or.inl (by omega))
theorem holds.at0 {f : Nat → Int32} {m : Nat} {c : Nat → Nat} (h : holds f m c) {p : Nat} (hp : p < m) : f (5 * p) = nI (c (5 * p)) := h _ (Or.inl (by omega))
theorem holds.day {f : Nat → Int32} {m : Nat} {c : Nat → Nat} (h : holds f m c) : f 25 = nI (c 25) := h _ (Or.inr rfl)
theorem noon2 {m p : Nat} {c : Nat → Nat} {z : Mem} (hm : m ≤ 5) (hp : p < m) (h : holds (z.1 11) m c) : fX2_noonWeight_2 (nI p) z = some (nI (nw c p), z) := by
  unfold fX2_noonWeight_2 fX2_pocketWeight_2
  rw [show fX2_get_2 (nI p) (0 : Int32) z = _ from get2 (p := p) (c := 0) (by omega) z, cls, show fX2_get_2 (nI p) (1 : Int32) z = _ from get2 (p := p) (c := 1) (by omega) z, cls, show fX2_get_2 (nI p) (2 : Int32) z = _ from get2 (p := p) (c := 2) (by omega) z, cls, cls, h.at (k := 0) hp (by decide), h.at (k := 1) hp (by decide), h.at (k := 2) hp (by decide),
    show (8 : Int32) = nI 8 from rfl, show (10 : Int32) = nI 10 from rfl, pk_mul, pk_mul, nI_add, nI_add]
  rfl
theorem noon9 {m p : Nat} {c : Nat → Nat} {z : Mem} (hm : m ≤ 5) (hp : p < m) (h : holds (z.1 24) m c) : fX2_noonWeight_9 (nI p) z = some (nI (nw c p), z) := by
  unfold fX2_noonWeight_9 fX2_pocketWeight_9
  rw [show fX2_get_9 (nI p) (0 : Int32) z = _ from get9 (p := p) (c := 0) (by omega) z, cls, show fX2_get_9 (nI p) (1 : Int32) z = _ from get9 (p := p) (c := 1) (by omega) z, cls, show fX2_get_9 (nI p) (2 : Int32) z = _ from get9 (p := p) (c := 2) (by omega) z, cls, cls, h.at (k := 0) hp (by decide), h.at (k := 1) hp (by decide), h.at (k := 2) hp (by decide),
    show (8 : Int32) = nI 8 from rfl, show (10 : Int32) = nI 10 from rfl, pk_mul, pk_mul, nI_add, nI_add]
  rfl
theorem noonM {m p : Nat} {c : Nat → Nat} {z : Mem} (hm : m ≤ 5) (hp : p < m) (h : holds (z.1 27) m c) : fX9_noonOf (nI p) z = some (nI (nw c p), z) := by
  unfold fX9_noonOf
  rw [lts, c50, rd (by omega), lts, lts, show nI (5 * p) + (1 : Int32) = nI (5 * p + 1) from nI_add _ _, rd (by omega), lts, lts, show nI (5 * p) + (2 : Int32) = nI (5 * p + 2) from nI_add _ _, rd (by omega), lts, clamp (by omega), clamp (by omega), clamp (by omega), h.at0 hp, h.at (k := 1) hp (by decide), h.at (k := 2) hp (by decide),
    show (8 : Int32) = nI 8 from rfl, show (10 : Int32) = nI 10 from rfl, pk_mul, pk_mul, nI_add, nI_add, Nat.add_assoc]
  rfl
theorem ill40 (i : Nat) : (40 : Int32) * nI i = nI (40 * i) := by rw [show (40 : Int32) = nI 40 from rfl, pk_mul]
theorem ill2 {m p i : Nat} {c : Nat → Nat} {z : Mem} (hm : m ≤ 5) (hp : p < m) (hi : i ≤ 9) (hz : z.1 2 3 = nI i) (h : holds (z.1 11) m c) (hc : c (5 * p) < 2 ^ 20) : fX2_isIll_2 (nI p) z = some (if c (5 * p) < 40 * i then 1 else 0, z) := by
  unfold fX2_isIll_2
  rw [show fX2_get_2 (nI p) (0 : Int32) z = _ from get2 (p := p) (c := 0) (by omega) z, cls, hz, ill40, h.at (k := 0) hp (by decide)]
  show (if nI (40 * i) ≤ nI (c (5 * p)) then _ else _) = _
  by_cases hh : c (5 * p) < 40 * i
  · rw [if_neg (nI_ge hh (by omega)), if_pos hh]
  · rw [if_pos (nI_le (by omega) (by omega)), if_neg hh]
theorem ill9 {m p i : Nat} {c : Nat → Nat} {z : Mem} (hm : m ≤ 5) (hp : p < m) (hi : i ≤ 9) (hz : z.1 9 3 = nI i) (h : holds (z.1 24) m c) (hc : c (5 * p) < 2 ^ 20) : fX2_isIll_9 (nI p) z = some (if c (5 * p) < 40 * i then 1 else 0, z) := by
  unfold fX2_isIll_9
  rw [show fX2_get_9 (nI p) (0 : Int32) z = _ from get9 (p := p) (c := 0) (by omega) z, cls, hz, ill40, h.at (k := 0) hp (by decide)]
  show (if nI (40 * i) ≤ nI (c (5 * p)) then _ else _) = _
  by_cases hh : c (5 * p) < 40 * i
  · rw [if_neg (nI_ge hh (by omega)), if_pos hh]
  · rw [if_pos (nI_le (by omega) (by omega)), if_neg hh]
theorem illM {m p i : Nat} {c : Nat → Nat} {z : Mem} (hm : m ≤ 5) (hp : p < m) (hi : i ≤ 9) (hz : z.1 25 9 = nI i) (h : holds (z.1 27) m c) (hc : c (5 * p) < 2 ^ 20) : fX9_isIll (nI p) z = some (if c (5 * p) < 40 * i then 1 else 0, z) := by
  unfold fX9_isIll
  rw [lts, c50, rd (by omega), lts, hz, ill40, clamp (by omega), h.at0 hp]
  by_cases hh : c (5 * p) < 40 * i
  · rw [if_neg (nI_ge hh (by omega)), if_pos hh]
  · rw [if_pos (nI_le (by omega) (by omega)), if_neg hh]
theorem CB.lt {k m : Nat} {c : Nat → Nat} (h : CB k m c) (hk : k ≤ 512) {p : Nat} (hp : p < m) : c (5 * p) < 2 ^ 16 := by have := h.1 p hp; omega
theorem CB.nw {k m : Nat} {c : Nat → Nat} (h : CB k m c) (hk : k ≤ 512) {p : Nat} (hp : p < m) : nw c p < 2 ^ 17 := by
  have := h.1 p hp
  unfold Jvm.Pilot.@@N@@.nw
  omega
/-! ===== the simplest calls ===== -/
theorem ok_wipe : Ok fX8_wipe fX9_wipe := by
  refine ok_of fun k S z hk hG hC => ⟨nI (S.1 0), sI z 1 1 0, sS S 0 0, ?_, ?_, AgM.sI z 1 0 (by decide), ?_, fun y hR => ⟨sI y 25 11 0, ?_, ?_, AgC.sI y 11 0 (by decide)⟩⟩
  · unfold fX8_wipe fX1_length fX1_clear
    rw [cls, lts, cls, hC.1.1]
  · obtain ⟨h1, h2, h3, h4, h5, h6, h7, h8⟩ := hC
    exact ⟨⟨rfl, fun j hj => absurd hj (by simp [sS])⟩, h2, h3, h4, h5, h6, h7, h8⟩
  · obtain ⟨h1, h2⟩ := hG.up
    exact ⟨⟨by simp [sS], fun j hj => absurd hj (by simp [sS])⟩, h2⟩
  · unfold fX9_wipe
    rw [lts, lts, hR.1.1]
  · obtain ⟨h1, h2, h3, h4, h5, h6, h7, h8⟩ := hR
    exact ⟨⟨rfl, fun j hj => absurd hj (by simp [sS])⟩, h2, h3, h4, h5, h6, h7, h8⟩
theorem ok_unweigh : Ok fX8_unweigh fX9_unweigh := by
  refine ok_of fun k S z hk hG hC => ⟨nI (S.1 6), sI z 5 3 0, sS S 6 0, ?_, ?_, AgM.sI z 3 0 (by decide), ?_, fun y hR => ⟨sI y 25 17 0, ?_, ?_, AgC.sI y 17 0 (by decide)⟩⟩
  · unfold fX8_unweigh fX6_length fX6_clear
    rw [cls, lts, cls, hC.2.2.2.2.1.1]
  · obtain ⟨h1, h2, h3, h4, h5, h6, h7, h8⟩ := hC
    exact ⟨h1, h2, h3, h4, ⟨rfl, fun j hj => absurd hj (by simp [sS])⟩, h6, h7, h8⟩
  · obtain ⟨h1, h2, h3, h4, h5, h6⟩ := hG.up
    exact ⟨h1, h2, h3, h4, ⟨by simp [sS], fun j hj => absurd hj (by simp [sS])⟩, h6⟩
  · unfold fX9_unweigh
    rw [lts, lts, hR.2.2.2.2.1.1]
  · obtain ⟨h1, h2, h3, h4, h5, h6, h7, h8⟩ := hR
    exact ⟨h1, h2, h3, h4, ⟨rfl, fun j hj => absurd hj (by simp [sS])⟩, h6, h7, h8⟩
theorem ok_unsearch : Ok fX8_unsearch fX9_unsearch := by
  refine ok_of fun k S z hk hG hC => ⟨nI (S.1 7), sI (sI z 6 4 0) 6 6 0, sS S 7 0, ?_, ?_, (AgM.sI z 4 0 (by decide)).tr (AgM.sI _ 6 0 (by decide)), ?_, fun y hR => ⟨sI y 25 21 0, ?_, ?_, AgC.sI y 21 0 (by decide)⟩⟩
  · unfold fX8_unsearch fX4_length fX4_clear
    rw [cls, lts, lts, cls, hC.2.2.2.2.2.1.1]
  · obtain ⟨h1, h2, h3, h4, h5, h6, h7, h8⟩ := hC
    exact ⟨h1, h2, h3, h4, h5, ⟨rfl, fun j hj => absurd hj (by simp [sS]), Or.inl rfl⟩, h7, h8⟩
  · obtain ⟨h1, h2, h3, h4, h5, h6, h7⟩ := hG.up
    exact ⟨h1, h2, h3, h4, h5, ⟨by simp [sS], fun j hj => absurd hj (by simp [sS])⟩, h7⟩
  · unfold fX9_unsearch
    rw [lts, lts, hR.2.2.2.2.2.1.1]
  · obtain ⟨h1, h2, h3, h4, h5, h6, h7, h8⟩ := hR
    exact ⟨h1, h2, h3, h4, h5, ⟨rfl, fun j hj => absurd hj (by simp [sS])⟩, h7, h8⟩
theorem ok_unrule : Ok fX8_unrule fX9_unrule := by
  refine ok_of fun k S z hk hG hC => ⟨nI (S.1 8), sI z 7 3 0, sS S 8 0, ?_, ?_, AgM.sI z 3 0 (by decide), ?_, fun y hR => ⟨sI y 25 26 0, ?_, ?_, AgC.sI y 26 0 (by decide)⟩⟩
  · unfold fX8_unrule fX3_length fX3_clear
    rw [cls, lts, cls, hC.2.2.2.2.2.2.1.1]
  · obtain ⟨h1, h2, h3, h4, h5, h6, h7, h8⟩ := hC
    exact ⟨h1, h2, h3, h4, h5, h6, ⟨rfl, fun j hj => absurd hj (by simp [sS])⟩, h8⟩
  · obtain ⟨h1, h2, h3, h4, h5, h6, h7⟩ := hG.up
    exact ⟨h1, h2, h3, h4, h5, h6, ⟨by simp [sS], fun j hj => absurd hj (by simp [sS])⟩⟩
  · unfold fX9_unrule
    rw [lts, lts, hR.2.2.2.2.2.2.1.1]
  · obtain ⟨h1, h2, h3, h4, h5, h6, h7, h8⟩ := hR
    exact ⟨h1, h2, h3, h4, h5, h6, ⟨rfl, fun j hj => absurd hj (by simp [sS])⟩, h8⟩
theorem ok_seed (v : Int64) : Ok (fX8_seed v) (fX9_seed v) := by
  refine ok_of fun k S z hk hG hC => ⟨S.2.2, sL z 8 1 v, sV S v, ?_, ?_, AgM.sL z 1 v (by decide), hG.up, fun y hR => ⟨sL y 25 30 v, ?_, ?_, AgC.sL y 30 v (by decide)⟩⟩
  · unfold fX8_seed fX7_sow
    rw [lts, lts, cls, hC.2.2.2.2.2.2.2]
  · obtain ⟨h1, h2, h3, h4, h5, h6, h7, h8⟩ := hC
    exact ⟨h1, h2, h3, h4, h5, h6, h7, rfl⟩
  · unfold fX9_seed
    rw [lts, lts, hR.2.2.2.2.2.2.2]
  · obtain ⟨h1, h2, h3, h4, h5, h6, h7, h8⟩ := hR
    exact ⟨h1, h2, h3, h4, h5, h6, h7, rfl⟩
