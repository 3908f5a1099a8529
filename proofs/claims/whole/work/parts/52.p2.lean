/-- a refused call, or one that only reads -/
theorem same {α : Type} {f g : Mem → Option (α × Mem)} {k : Nat} {S : AS} {z : Mem} (hG : G k S) (hC : C S z) (r : α) (hf : f z = some (r, z)) (hg : ∀ y, Rr S y → g y = some (r, y)) :
    ∃ (r : α) (z1 : Mem) (S' : AS), f z = some (r, z1) ∧ C S' z1 ∧ AgM z z1 ∧ G (k + 1) S' ∧ ∀ y, Rr S y → ∃ y1, g y = some (r, y1) ∧ Rr S' y1 ∧ AgC y y1 :=
  ⟨r, z, S, hf, hC, AgM.rf z, hG.up, fun y hR => ⟨y, hg y hR, hR, AgC.rf y⟩⟩
theorem isLaw8 (p : Int32) (z : Mem) : fX8_isLaw p z = some (if 0 ≤ p.toInt ∧ p.toInt ≤ 2 then 1 else 0, z) := by
  unfold fX8_isLaw
  have e0 : p < 0 ↔ p.toInt < 0 := lt32
  have e1 : (3 : Int32) ≤ p ↔ 3 ≤ p.toInt := le32
  by_cases h1 : p < 0
  · have g1 := e0.mp h1
    rw [if_pos h1, if_neg (by omega)]
  · have g1 : ¬ p.toInt < 0 := fun h => h1 (e0.mpr h)
    rw [if_neg h1]
    by_cases h2 : (3 : Int32) ≤ p
    · have g2 := e1.mp h2
      rw [if_pos h2, if_neg (by omega)]
    · have g2 : ¬ 3 ≤ p.toInt := fun h => h2 (e1.mpr h)
      rw [if_neg h2, if_pos (by omega)]
theorem ok_law (p : Int32) : Ok (fX8_law p) (fX9_law p) := by
  refine ok_of fun k S z hk hG hC => ?_
  by_cases h : 0 ≤ p.toInt ∧ p.toInt ≤ 2
  · obtain ⟨n, -, hn, rfl⟩ := rng_of (lo := 0) (hi := 2) h
    refine ⟨nI (S.1 4), sI z 0 8 (nI n), sS S 4 n, ?_, ?_, AgM.sI z 8 _ (by decide), ?_, fun y hR => ⟨sI y 25 7 (nI n), ?_, ?_, AgC.sI y 7 _ (by decide)⟩⟩
    · unfold fX8_law
      rw [isLaw8, cls, if_pos h, if_neg one0, lts, lts, hC.2.1.2.2.2.1]
    · obtain ⟨h1, h2, h3, h4, h5, h6, h7, h8⟩ := hC
      exact ⟨h1, ⟨h2.1, h2.2.1, h2.2.2.1, rfl, h2.2.2.2.2⟩, h3, h4, h5, h6, h7, h8⟩
    · obtain ⟨h1, h2, h3⟩ := hG.up
      exact ⟨h1, ⟨h2.1, h2.2.1, h2.2.2.1, hn, h2.2.2.2.2⟩, h3⟩
    · unfold fX9_law
      rw [in9i (nI n) 0 2 rfl rfl, cls, if_pos h, if_neg one0, lts, lts, hR.2.1.2.2.2.1]
    · obtain ⟨h1, h2, h3, h4, h5, h6, h7, h8⟩ := hR
      exact ⟨h1, ⟨h2.1, h2.2.1, h2.2.2.1, rfl, h2.2.2.2.2⟩, h3, h4, h5, h6, h7, h8⟩
  · refine same hG hC (-2) ?_ fun y hR => ?_
    · unfold fX8_law
      rw [isLaw8, cls, if_neg h, if_pos rfl]
    · unfold fX9_law
      rw [in9i p 0 2 rfl rfl, cls, if_neg h, if_pos rfl]
theorem of_toInt {p : Int32} {n : Nat} (hn : n < 2 ^ 31) (h : p.toInt = (n : Int)) : p = nI n := Int32.toInt_inj.mp (by rw [h, nI_toInt hn])
theorem ok_person (p w : Int32) : Ok (fX8_person p w) (fX9_person p w) := by
  refine ok_read fun k S z y hk hG hC hR => ?_
  have hm := hG.2.1.1
  have hi := hG.2.1.2.2.1
  have hcb := hG.2.1.2.2.2.2
  obtain ⟨c1, c2, c3, c4, c5'⟩ := hC.2.1
  obtain ⟨r1, r2, r3, r4, r5⟩ := hR.2.1
  unfold fX8_person fX9_person
  rw [hasP hm c1, cls, isP hm r1, cls]
  by_cases h : isp p (S.1 1)
  · obtain ⟨n, hn, rfl⟩ := isp_of h
    rw [if_pos h, if_neg one0, if_neg one0]
    have hc := hcb.lt (by omega) hn
    have one : ∀ (j : Nat), j < 5 → ∃ r : Int32, cl (fX2_get_2 (nI n) (nI j) z) (fun r_6 z_7 => some (r_6, z_7)) = some (r, z) ∧ lt ((((5 : Int32) * nI n) + nI j) : Int32) (fun y_6 => rg y_6 26 (lt ((y.1 27 y_6.toNatClampNeg) : Int32) (fun a_8 => some (a_8, y)))) = some (r, y) := by
      intro j hj
      refine ⟨nI (S.2.1 1 (5 * n + j)), ?_, ?_⟩
      · rw [get2 (by omega), cls, c5' _ (Or.inl (by omega))]
      · rw [lts, c5, rd (by omega), lts, clamp (by omega), r5 _ (Or.inl (by omega))]
    by_cases w0 : w.toInt = 0
    · rw [if_pos w0, if_pos w0, of_toInt (n := 0) (by decide) w0]
      exact one 0 (by decide)
    rw [if_neg w0, if_neg w0]
    by_cases w1 : w.toInt = 1
    · rw [if_pos w1, if_pos w1, of_toInt (n := 1) (by decide) w1]
      exact one 1 (by decide)
    rw [if_neg w1, if_neg w1]
    by_cases w2 : w.toInt = 2
    · rw [if_pos w2, if_pos w2, of_toInt (n := 2) (by decide) w2]
      exact one 2 (by decide)
    rw [if_neg w2, if_neg w2]
    by_cases w3 : w.toInt = 3
    · rw [if_pos w3, if_pos w3, of_toInt (n := 3) (by decide) w3]
      exact one 3 (by decide)
    rw [if_neg w3, if_neg w3]
    by_cases w4 : w.toInt = 4
    · rw [if_pos w4, if_pos w4, noon2 hm hn c5', noonM hm hn r5]
      exact ⟨_, rfl, rfl⟩
    rw [if_neg w4, if_neg w4]
    by_cases w5 : w.toInt = 5
    · rw [if_pos w5, if_pos w5, ill2 hm hn hi c3 c5' (by omega), illM hm hn hi r3 r5 (by omega), cls, cls]
      by_cases q : S.2.1 1 (5 * n) < 40 * S.1 3
      · rw [if_pos q, if_neg one0, if_neg one0]
        exact ⟨_, rfl, rfl⟩
      · rw [if_neg q, if_pos rfl, if_pos rfl]
        exact ⟨_, rfl, rfl⟩
    rw [if_neg w5, if_neg w5]
    by_cases w6 : w.toInt = 6
    · rw [if_pos w6, if_pos w6]
      exact one 4 (by decide)
    rw [if_neg w6, if_neg w6]
    exact ⟨_, rfl, rfl⟩
  · rw [if_neg h, if_pos rfl, if_pos rfl]
    exact ⟨_, rfl, rfl⟩
theorem upd_in {f : Nat → Int32} {c : Nat → Nat} {n v j : Nat} (h : ∀ j, j < n → f j = nI (c j)) (hj : j < n + 1) : upd f n (nI v) j = nI ((fun i => if i = n then v else c i) j) := by
  by_cases e : j = n
  · subst e; simp [upd]
  · simp only [upd, if_neg e]
    exact h j (by omega)
theorem ok_ruled (p : Int32) : Ok (fX8_ruled p) (fX9_ruled p) := by
  refine ok_of fun k S z hk hG hC => ?_
  have hm := hG.2.1.1
  by_cases h : isp p (S.1 1)
  · obtain ⟨n, hn, rfl⟩ := isp_of h
    have hr := hG.2.2.2.2.2.2.1
    by_cases h4 : S.1 8 = 4
    · refine same hG hC (-4) ?_ fun y hR => ?_
      · unfold fX8_ruled fX3_append
        rw [hasP hm hC.2.1.1, cls, if_pos h, if_neg one0, hC.2.2.2.2.2.2.1.1, h4, if_pos (show nI 4 = (4 : Int32) from rfl), cls, if_pos rfl]
      · unfold fX9_ruled
        rw [isP hm hR.2.1.1, cls, if_pos h, if_neg one0, hR.2.2.2.2.2.2.1.1, h4, if_pos (show nI 4 = (4 : Int32) from rfl)]
    · have hne : ¬ nI (S.1 8) = (4 : Int32) := fun e => h4 ((nI_eq (by omega) (by decide)).mp e)
      refine ⟨nI (S.1 8 + 1), sI (sI z 21 (S.1 8) (nI n)) 7 3 (nI (S.1 8 + 1)), sT (sS S 8 (S.1 8 + 1)) 9 (fun i => if i = S.1 8 then n else S.2.1 9 i), ?_, ?_, (AgM.sI z _ _ (by decide)).tr (AgM.sI _ _ _ (by decide)), ?_, fun y hR => ⟨sI (sI y 37 (S.1 8) (nI n)) 25 26 (nI (S.1 8 + 1)), ?_, ?_, (AgC.sI y _ _ (by decide)).tr (AgC.sI _ _ _ (by decide))⟩⟩
      · unfold fX8_ruled fX3_append fX3_length
        have e : (sI z 21 (S.1 8) (nI n)).1 7 3 + (1 : Int32) = nI (S.1 8 + 1) := by
          show z.1 7 3 + (1 : Int32) = _
          rw [hC.2.2.2.2.2.2.1.1]
          exact nI_1 _
        rw [hasP hm hC.2.1.1, cls, if_pos h, if_neg one0, hC.2.2.2.2.2.2.1.1, if_neg hne, rgs (by omega) (by decide), lts, lts, lts, cls, if_neg one0, cls, clamp (by omega), e]
        rfl
      · obtain ⟨h1, h2, h3, h4', h5, h6, h7, h8⟩ := hC
        exact ⟨h1, h2, h3, h4', h5, h6, ⟨rfl, fun j hj => upd_in h7.2 hj⟩, h8⟩
      · obtain ⟨h1, h2, h3, h4', h5, h6, h7⟩ := hG.up
        refine ⟨h1, h2, h3, h4', h5, h6, ⟨by show S.1 8 + 1 ≤ 4; omega, fun j hj => ?_⟩⟩
        show (if j = S.1 8 then n else S.2.1 9 j) ≤ 4
        have hj : j < S.1 8 + 1 := hj
        split
        · omega
        · exact h7.2 j (by omega)
      · unfold fX9_ruled
        have e : (sI y 37 (S.1 8) (nI n)).1 25 26 + (1 : Int32) = nI (S.1 8 + 1) := by
          show y.1 25 26 + (1 : Int32) = _
          rw [hR.2.2.2.2.2.2.1.1]
          exact nI_1 _
        rw [isP hm hR.2.1.1, cls, if_pos h, if_neg one0, hR.2.2.2.2.2.2.1.1, if_neg hne, rgs (by omega) (by decide), lts, lts, lts, clamp (by omega), e]
        rfl
      · obtain ⟨h1, h2, h3, h4', h5, h6, h7, h8⟩ := hR
        exact ⟨h1, h2, h3, h4', h5, h6, ⟨rfl, fun j hj => upd_in h7.2 hj⟩, h8⟩
  · refine same hG hC (-1) ?_ fun y hR => ?_
    · unfold fX8_ruled
      rw [hasP hm hC.2.1.1, cls, if_neg h, if_pos rfl]
    · unfold fX9_ruled
      rw [isP hm hR.2.1.1, cls, if_neg h, if_pos rfl]
theorem ok_search (p n : Int32) : Ok (fX8_search p n) (fX9_search p n) := by
  refine ok_of fun k S z hk hG hC => ?_
  have a1 : p < (1 : Int32) ↔ p.toInt < 1 := lt32
  have a2 : (31 : Int32) < p ↔ 31 < p.toInt := lt32
  have a3 : n < 0 ↔ n.toInt < 0 := lt32
  have a4 : n ≤ (45 : Int32) ↔ n.toInt ≤ 45 := le32
  by_cases h : 1 ≤ p.toInt ∧ p.toInt ≤ 31
  · by_cases g : 0 ≤ n.toInt ∧ n.toInt ≤ 45
    · have b1 : ¬ p < (1 : Int32) := fun q => by have := a1.mp q; omega
      have b2 : ¬ (31 : Int32) < p := fun q => by have := a2.mp q; omega
      have b3 : ¬ n < 0 := fun q => by have := a3.mp q; omega
      have b4 : n ≤ (45 : Int32) := a4.mpr g.2
      obtain ⟨a, ha1, ha2, rfl⟩ := rng_of (lo := 1) (hi := 31) h
      obtain ⟨b, hb1, hb2, rfl⟩ := rng_of (lo := 0) (hi := 45) g
      have hr := hG.2.2.2.2.2.1.1
      by_cases h8' : S.1 7 = 8
      · refine same hG hC (-4) ?_ fun y hR => ?_
        · unfold fX8_search fX4_append
          rw [if_neg b1, if_neg b2, if_neg b3, if_pos b4, hC.2.2.2.2.2.1.1, h8', if_pos (show nI 8 = (8 : Int32) from rfl), cls, if_pos rfl]
        · unfold fX9_search
          rw [in9i _ 1 31 rfl rfl, cls, if_pos h, if_neg one0, in9i _ 0 45 rfl rfl, cls, if_pos g, if_neg one0, hR.2.2.2.2.2.1.1, h8', if_pos (show nI 8 = (8 : Int32) from rfl)]
      · have hne : ¬ nI (S.1 7) = (8 : Int32) := fun e => h8' ((nI_eq (by omega) (by decide)).mp e)
        refine ⟨nI (S.1 7 + 1), sI (sI (sI (sI z 17 (S.1 7) (nI a)) 18 (S.1 7) (nI b)) 6 4 (nI (S.1 7 + 1))) 6 6 0, sT (sT (sS S 7 (S.1 7 + 1)) 7 (fun i => if i = S.1 7 then a else S.2.1 7 i)) 8 (fun i => if i = S.1 7 then b else S.2.1 8 i), ?_, ?_, (((AgM.sI z _ _ (by decide)).tr (AgM.sI _ _ _ (by decide))).tr (AgM.sI _ _ _ (by decide))).tr (AgM.sI _ _ _ (by decide)), ?_, fun y hR => ⟨sI (sI (sI y 33 (S.1 7) (nI a)) 34 (S.1 7) (nI b)) 25 21 (nI (S.1 7 + 1)), ?_, ?_, ((AgC.sI y _ _ (by decide)).tr (AgC.sI _ _ _ (by decide))).tr (AgC.sI _ _ _ (by decide))⟩⟩
        · unfold fX8_search fX4_append fX4_length
          have e1 : ∀ v, (sI z 17 (S.1 7) v).1 6 4 = nI (S.1 7) := fun v => hC.2.2.2.2.2.1.1
          have e2 : ∀ v w, (sI (sI z 17 (S.1 7) v) 18 (S.1 7) w).1 6 4 = nI (S.1 7) := fun v w => hC.2.2.2.2.2.1.1
          rw [if_neg b1, if_neg b2, if_neg b3, if_pos b4, hC.2.2.2.2.2.1.1, if_neg hne, rgs (by omega) (by decide), lts, clamp (by omega), e1, rgs (by omega) (by decide), lts, lts, lts, lts, cls, if_neg one0, cls, clamp (by omega), e2, show nI (S.1 7) + (1 : Int32) = nI (S.1 7 + 1) from nI_1 _]
          rfl
        · obtain ⟨h1, h2, h3, h4', h5, h6, h7, h8⟩ := hC
          exact ⟨h1, h2, h3, h4', h5, ⟨rfl, fun j hj => ⟨upd_in (fun j hj => (h6.2.1 j hj).1) hj, upd_in (fun j hj => (h6.2.1 j hj).2) hj⟩, Or.inl rfl⟩, h7, h8⟩
        · obtain ⟨h1, h2, h3, h4', h5, h6, h7⟩ := hG.up
          refine ⟨h1, h2, h3, h4', h5, ⟨by show S.1 7 + 1 ≤ 8; omega, fun j hj => ?_⟩, h7⟩
          show 1 ≤ (if j = S.1 7 then a else S.2.1 7 j) ∧ (if j = S.1 7 then a else S.2.1 7 j) ≤ 31 ∧ (if j = S.1 7 then b else S.2.1 8 j) ≤ 45
          have hj : j < S.1 7 + 1 := hj
          by_cases e : j = S.1 7
          · rw [if_pos e, if_pos e]; omega
          · rw [if_neg e, if_neg e]; exact h6.2 j (by omega)
        · unfold fX9_search
          have e1 : ∀ v, (sI y 33 (S.1 7) v).1 25 21 = nI (S.1 7) := fun v => hR.2.2.2.2.2.1.1
          have e2 : ∀ v w, (sI (sI y 33 (S.1 7) v) 34 (S.1 7) w).1 25 21 = nI (S.1 7) := fun v w => hR.2.2.2.2.2.1.1
          rw [in9i _ 1 31 rfl rfl, cls, if_pos h, if_neg one0, in9i _ 0 45 rfl rfl, cls, if_pos g, if_neg one0, hR.2.2.2.2.2.1.1, if_neg hne, rgs (by omega) (by decide), lts, clamp (by omega), e1, rgs (by omega) (by decide), lts, lts, lts, clamp (by omega), e2, show nI (S.1 7) + (1 : Int32) = nI (S.1 7 + 1) from nI_1 _]
          rfl
        · obtain ⟨h1, h2, h3, h4', h5, h6, h7, h8⟩ := hR
          exact ⟨h1, h2, h3, h4', h5, ⟨rfl, fun j hj => ⟨upd_in (fun j hj => (h6.2 j hj).1) hj, upd_in (fun j hj => (h6.2 j hj).2) hj⟩⟩, h7, h8⟩
    · refine same hG hC (-2) ?_ fun y hR => ?_
      · unfold fX8_search
        rw [if_neg (fun q => by have := a1.mp q; omega), if_neg (fun q => by have := a2.mp q; omega)]
        by_cases q : n < 0
        · rw [if_pos q]
        · have q' : ¬ n.toInt < 0 := fun t => q (a3.mpr t)
          rw [if_neg q, if_neg (fun q => by have := a4.mp q; omega)]
      · unfold fX9_search
        rw [in9i _ 1 31 rfl rfl, cls, if_pos h, if_neg one0, in9i _ 0 45 rfl rfl, cls, if_neg g, if_pos rfl]
  · refine same hG hC (-2) ?_ fun y hR => ?_
    · unfold fX8_search
      by_cases q : p < (1 : Int32)
      · rw [if_pos q]
      · have q' : ¬ p.toInt < 1 := fun t => q (a1.mpr t)
        rw [if_neg q, if_pos (a2.mpr (by omega))]
    · unfold fX9_search
      rw [in9i _ 1 31 rfl rfl, cls, if_neg h, if_pos rfl]
