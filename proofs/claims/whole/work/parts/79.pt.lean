theorem lay32 {S : AS} (hG : Gq S) (K : Int32 → Int32 → Mem → Option (Int32 × Mem)) : ∀ (d c n : Nat) (y : Mem), c + d = 100000 → d < n → Rq S y → (∀ k, k < 5 → lowR (fun x => x < c ∧ fitN S x = true) k 9 (y.1 35 k).toInt ∧ highR (fun x => x < c ∧ fitN S x = true) k 0 (y.1 36 k).toInt) → ∃ w, fX9_layRows_L32 K n (nI (sm c (fun x => if fitN S x = true then 1 else 0))) (nI c) y = K (nI (sm 100000 (fun x => if fitN S x = true then 1 else 0))) (nI 100000) w ∧ Out [35, 36] y w ∧ ∀ k, k < 5 → lowR (fun x => x < 100000 ∧ fitN S x = true) k 9 (w.1 35 k).toInt ∧ highR (fun x => x < 100000 ∧ fitN S x = true) k 0 (w.1 36 k).toInt := by
  intro d
  induction d with
  | zero =>
    intro c n y h1 h2 h3 h4
    obtain ⟨n, rfl⟩ : ∃ k, n = k + 1 := ⟨n - 1, by omega⟩
    obtain rfl : c = 100000 := by omega
    exact ⟨y, by rw [fX9_layRows_L32_s, if_pos (show (100000 : Int32) ≤ nI 100000 by decide)], Out.rf _ y, h4⟩
  | succ d ih =>
    intro c n y h1 h2 h3 h4
    obtain ⟨n, rfl⟩ : ∃ k, n = k + 1 := ⟨n - 1, by omega⟩
    have hc : c < 100000 := by omega
    rw [fX9_layRows_L32_s, if_neg (show ¬ (100000 : Int32) ≤ nI c from nI_ge (b := 100000) hc (by decide)), fits9 hG h3 hc, cls]
    cases hb : fitN S c
    · rw [if_pos (show bI false = 0 from rfl), lts, show nI c + (1 : Int32) = nI (c + 1) from nI_1 c]
      have e : sm (c + 1) (fun x => if fitN S x = true then 1 else 0) = sm c (fun x => if fitN S x = true then 1 else 0) := by
        show _ + (if fitN S c = true then 1 else 0) = _
        rw [if_neg (by rw [hb]; decide), Nat.add_zero]
      have eq : ∀ x, (x < c + 1 ∧ fitN S x = true) ↔ (x < c ∧ fitN S x = true) := fun x => ⟨fun t => ⟨by
        by_cases w : x = c
        · have := t.2
          rw [w, hb] at this
          exact absurd this (by decide)
        · omega, t.2⟩, fun t => ⟨by omega, t.2⟩⟩
      rw [← e]
      refine ih (c + 1) n y (by omega) (by omega) h3 fun k hk => ?_
      have := h4 k hk
      rw [show (fun x => x < c + 1 ∧ fitN S x = true) = (fun x => x < c ∧ fitN S x = true) from funext fun x => propext (eq x)]
      exact this
    · rw [if_neg (show ¬ bI true = 0 by decide), lts]
      generalize hK : (fun (x3_21 : Int32) (z_20 : Mem) => lt (nI c + (1 : Int32)) (fun x2_22 => (fX9_layRows_L32 K n (nI (sm c (fun x => if fitN S x = true then 1 else 0)) + (1 : Int32)) x2_22 z_20))) = K'
      obtain ⟨w, w1, w2, _, w4⟩ := lay_L hc K' 5 0 FU y (by decide) (by unfold FU; decide)
      have w1' : fX9_layRows_L51 K' (nI c) FU (0 : Int32) y = _ := w1
      rw [w1', ← hK]
      dsimp only
      have e : sm c (fun x => if fitN S x = true then 1 else 0) + 1 = sm (c + 1) (fun x => if fitN S x = true then 1 else 0) := by
        show _ = _ + (if fitN S c = true then 1 else 0)
        rw [if_pos hb]
      rw [lts, show nI c + (1 : Int32) = nI (c + 1) from nI_1 c, show nI (sm c (fun x => if fitN S x = true then 1 else 0)) + (1 : Int32) = nI (sm c (fun x => if fitN S x = true then 1 else 0) + 1) from nI_1 _, e]
      have eq : ∀ x, (x < c + 1 ∧ fitN S x = true) ↔ (x < c ∧ fitN S x = true) ∨ x = c := fun x => ⟨fun t => by
        by_cases w : x = c
        · exact Or.inr w
        · exact Or.inl ⟨by omega, t.2⟩, fun t => by
        rcases t with t | t
        · exact ⟨by omega, t.2⟩
        · exact ⟨by omega, by rw [t]; exact hb⟩⟩
      obtain ⟨v, v1, v2, v3⟩ := ih (c + 1) n w (by omega) (by omega) (h3.go (by rw [(w4 25 (by decide)).1]) (w4 33 (by decide)).1 (w4 34 (by decide)).1) (fun k hk => by
        obtain ⟨a, b⟩ := w2 k (Nat.zero_le _) hk
        obtain ⟨p, q⟩ := h4 k hk
        refine ⟨p.join (R := fun x => x = c) (c := (w.1 35 k).toInt) ?_ eq, q.join (R := fun x => x = c) (c := (w.1 36 k).toInt) ?_ eq⟩
        · rw [a]
          refine ⟨by omega, ?_, fun x hx => by rw [hx]; omega⟩
          by_cases g : (y.1 35 k).toInt ≤ dg c k
          · exact Or.inl (by omega)
          · exact Or.inr ⟨c, rfl, by omega⟩
        · rw [b]
          refine ⟨by omega, ?_, fun x hx => by rw [hx]; omega⟩
          by_cases g : (dg c k : Int) ≤ (y.1 36 k).toInt
          · exact Or.inl (by omega)
          · exact Or.inr ⟨c, rfl, by omega⟩)
      exact ⟨v, v1, w4.tr v2, v3⟩
theorem lay4 (K : Int32 → Mem → Option (Int32 × Mem)) : ∀ (d k n : Nat) (y : Mem), k + d = 5 → d < n → (∀ j, j < k → y.1 35 j = 9 ∧ y.1 36 j = 0) → ∃ w, fX9_layRows_L4 K n (nI k) y = K (nI 5) w ∧ (∀ j, j < 5 → w.1 35 j = 9 ∧ w.1 36 j = 0) ∧ Out [35, 36] y w := by
  intro d
  induction d with
  | zero =>
    intro k n y h1 h2 h3
    obtain ⟨n, rfl⟩ : ∃ k, n = k + 1 := ⟨n - 1, by omega⟩
    obtain rfl : k = 5 := by omega
    exact ⟨y, by rw [fX9_layRows_L4_s, if_pos (show (5 : Int32) ≤ nI 5 by decide)], h3, Out.rf _ y⟩
  | succ d ih =>
    intro k n y h1 h2 h3
    obtain ⟨n, rfl⟩ : ∃ k, n = k + 1 := ⟨n - 1, by omega⟩
    have hk : k < 5 := by omega
    obtain ⟨w, w1, w2, w3⟩ := ih (k + 1) n (sI (sI y 35 k 9) 36 k 0) (by omega) (by omega) (fun j hj => by
      show upd (y.1 35) k 9 j = 9 ∧ upd (y.1 36) k 0 j = 0
      rw [up1, up1]
      by_cases e : j = k
      · rw [if_pos e, if_pos e]; exact ⟨rfl, rfl⟩
      · rw [if_neg e, if_neg e]; exact h3 j (by omega))
    refine ⟨w, ?_, w2, ((Out.sI [35, 36] y _ _ (by decide)).tr (Out.sI _ _ _ _ (by decide))).tr w3⟩
    rw [fX9_layRows_L4_s, if_neg (show ¬ (5 : Int32) ≤ nI k from nI_ge (b := 5) hk (by decide)), rgs hk (by decide), lts, rgs hk (by decide), lts, lts, clamp (by omega), show nI k + (1 : Int32) = nI (k + 1) from nI_1 k, w1]
theorem lay9 {S : AS} {y : Mem} (hG : Gq S) (hR : Rq S y) : ∃ w, fX9_layRows y = some (nI (rowsN S), w) ∧ Out [35, 36] y w ∧ ∀ k, k < 5 → lowR (Qc S 0 0) k 9 (w.1 35 k).toInt ∧ highR (Qc S 0 0) k 0 (w.1 36 k).toInt := by
  unfold fX9_layRows
  generalize hK : (fun (x2_3 : Int32) (z_2 : Mem) => (fX9_layRows_L32 (fun (x1_6 : Int32) (x2_7 : Int32) (z_5 : Mem) => some (x1_6, z_5)) FU (0 : Int32) (0 : Int32) z_2)) = K
  obtain ⟨w, w1, w2, w3⟩ := lay4 K 5 0 FU y (by decide) (by unfold FU; decide) (fun j hj => absurd hj (by omega))
  have w1' : fX9_layRows_L4 K FU (0 : Int32) y = _ := w1
  rw [w1', ← hK]
  dsimp only
  have n0 : ∀ x, ¬ (x < 0 ∧ fitN S x = true) := fun x t => by omega
  obtain ⟨v, v1, v2, v3⟩ := lay32 hG (fun (x1_6 : Int32) (x2_7 : Int32) (z_5 : Mem) => some (x1_6, z_5)) 100000 0 FU w (by decide) (by unfold FU; decide) (hR.go (by rw [(w3 25 (by decide)).1]) (w3 33 (by decide)).1 (w3 34 (by decide)).1) (fun k hk => by
    rw [(w2 k hk).1, (w2 k hk).2]
    exact ⟨lowR.none n0 k _, highR.none n0 k _⟩)
  have eQ : Qc S 0 0 = (fun x => x < 100000 ∧ fitN S x = true) := funext fun x => propext ⟨fun t => ⟨t.1, t.2.2⟩, fun t => ⟨t.1, by rw [Nat.pow_zero, Nat.mod_one], t.2⟩⟩
  refine ⟨v, ?_, w3.tr v2, ?_⟩
  · unfold rowsN
    rw [sm_len]
    exact v1
  · rw [eQ]
    exact v3
theorem rows_C {S : AS} {z y : Mem} (hC : C S z) (h : Cq S y) (o : Out [6, 18, 19, 20] z y) : C S y := by
  obtain ⟨h1, h2, h3, h4, h5, h6, h7, h8⟩ := hC
  exact ⟨h1.go (o 1 (by decide)).1 (o 10 (by decide)).1, h2.go (o 2 (by decide)).1 (o 0 (by decide)).1 (o 11 (by decide)).1, h3.go (o 3 (by decide)).1 (o 12 (by decide)).1, h4.go (o 4 (by decide)).1 (o 13 (by decide)).1, h5.go (o 5 (by decide)).1 (o 14 (by decide)).1 (o 15 (by decide)).1 (o 16 (by decide)).1, h, h7.go (o 7 (by decide)).1 (o 21 (by decide)).1, h8.go (o 8 (by decide)).2⟩
theorem rows_R {S : AS} {z y : Mem} (hR : Rr S z) (o : Out [35, 36] z y) : Rr S y := by
  obtain ⟨h1, h2, h3, h4, h5, h6, h7, h8⟩ := hR
  have e := (o 25 (by decide)).1
  exact ⟨h1.go (by rw [e]) (o 28 (by decide)).1, h2.go (by rw [e]) (by rw [e]) (by rw [e]) (by rw [e]) (o 27 (by decide)).1, h3.go (by rw [e]) (by rw [e]) (o 29 (by decide)).1, h4.go (o 41 (by decide)).1 (o 42 (by decide)).1, h5.go (by rw [e]) (o 30 (by decide)).1 (o 31 (by decide)).1 (o 32 (by decide)).1, h6.go (by rw [e]) (o 33 (by decide)).1 (o 34 (by decide)).1, h7.go (by rw [e]) (o 37 (by decide)).1, h8.go (o 25 (by decide)).2⟩
theorem ok_rows : Ok fX8_rows fX9_rows := by
  refine ok_of fun k S z hk hG hC => ?_
  obtain ⟨y, a1, a2, _, a4⟩ := frows hG.2.2.2.2.2.1 hC.2.2.2.2.2.1
  refine ⟨nI (rowsN S), y, S, by unfold fX8_rows; rw [a1, cls], rows_C hC a2 a4, a4.M (by decide), hG.up, fun x hR => ?_⟩
  obtain ⟨w, b1, b2, _⟩ := lay9 hG.2.2.2.2.2.1 hR.2.2.2.2.2.1
  exact ⟨w, by unfold fX9_rows; rw [b1, cls], rows_R hR b2, b2.C (by decide)⟩
theorem rowsN_le (S : AS) : rowsN S ≤ 100000 := by
  unfold rowsN
  rw [sm_len]
  exact sm_le
theorem ok_stones (p v : Int32) : Ok (fX8_stones p v) (fX9_stones p v) := by
  refine ok_of fun k S z hk hG hC => ?_
  have a1 : p < 0 ↔ p.toInt < 0 := lt32
  have a2 : p < (5 : Int32) ↔ p.toInt < 5 := lt32
  by_cases h : 0 ≤ p.toInt ∧ p.toInt ≤ 4
  · have b1 : ¬ p < 0 := fun q => by have := a1.mp q; omega
    have b2 : p < (5 : Int32) := a2.mpr (by omega)
    obtain ⟨n, _, hn, rfl⟩ := rng_of (lo := 0) (hi := 4) h
    obtain ⟨y, c1, c2, c3, c4⟩ := frows hG.2.2.2.2.2.1 hC.2.2.2.2.2.1
    have hr := rowsN_le S
    have i0 : nI (rowsN S) = 0 ↔ rowsN S = 0 := nI_eq (b := 0) (by omega) (by decide)
    by_cases q : rowsN S = 0
    · refine ⟨-9, y, S, ?_, rows_C hC c2 c4, c4.M (by decide), hG.up, fun x hR => ?_⟩
      · unfold fX8_stones
        rw [if_neg b1, if_pos b2, c1, cls, if_pos (i0.mpr q)]
      · obtain ⟨w, d1, d2, d3⟩ := lay9 hG.2.2.2.2.2.1 hR.2.2.2.2.2.1
        refine ⟨w, ?_, rows_R hR d2, d2.C (by decide)⟩
        unfold fX9_stones
        rw [in9i _ 0 4 rfl rfl, cls, if_pos h, if_neg one0, d1, cls, if_pos (i0.mpr q)]
    · have he : ∃ c, Qc S 0 0 c := (cnt5_pos (S := S) (i := 0) (by decide) (by decide)).mp (by rw [← rowsN_eq]; exact q)
      obtain ⟨a, b, e1, e2, e3, e4⟩ : ∃ a b, y.1 19 n = nI a ∧ isLeast S n a ∧ y.1 20 n = nI b ∧ isMost S n b := by
        rcases c2.2.2 with t | t
        · exact absurd t c3
        · exact t.2.2 q n (by omega)
      by_cases v0 : v = 0
      · refine ⟨nI a, y, S, ?_, rows_C hC c2 c4, c4.M (by decide), hG.up, fun x hR => ?_⟩
        · unfold fX8_stones fX4_leastOf
          rw [if_neg b1, if_pos b2, c1, cls, if_neg (fun t => q (i0.mp t)), if_pos v0, if_neg b1, if_pos b2, rgs (by omega) (by decide), lts, clamp (by omega), e1, cls]
        · obtain ⟨w, d1, d2, d3⟩ := lay9 hG.2.2.2.2.2.1 hR.2.2.2.2.2.1
          obtain ⟨u, u1, u2, u3⟩ := (d3 n (by omega)).1.is (by decide) he
          have ew : w.1 35 n = nI a := by rw [ofTI (by omega) u1, u3.u e2]
          refine ⟨w, ?_, rows_R hR d2, d2.C (by decide)⟩
          unfold fX9_stones
          rw [in9i _ 0 4 rfl rfl, cls, if_pos h, if_neg one0, d1, cls, if_neg (fun t => q (i0.mp t)), if_pos v0, rgs (by omega) (by decide), lts, clamp (by omega), ew]
      · refine ⟨nI b, y, S, ?_, rows_C hC c2 c4, c4.M (by decide), hG.up, fun x hR => ?_⟩
        · unfold fX8_stones fX4_mostOf
          rw [if_neg b1, if_pos b2, c1, cls, if_neg (fun t => q (i0.mp t)), if_neg v0, if_neg b1, if_pos b2, rgs (by omega) (by decide), lts, clamp (by omega), e3, cls]
        · obtain ⟨w, d1, d2, d3⟩ := lay9 hG.2.2.2.2.2.1 hR.2.2.2.2.2.1
          obtain ⟨u, u1, u2, u3⟩ := (d3 n (by omega)).2.is (by decide) he
          have ew : w.1 36 n = nI b := by rw [ofTI (by omega) u1, u3.u e4]
          refine ⟨w, ?_, rows_R hR d2, d2.C (by decide)⟩
          unfold fX9_stones
          rw [in9i _ 0 4 rfl rfl, cls, if_pos h, if_neg one0, d1, cls, if_neg (fun t => q (i0.mp t)), if_neg v0, rgs (by omega) (by decide), lts, clamp (by omega), ew]
  · refine same hG hC (-2) ?_ fun y hR => ?_
    · unfold fX8_stones
      by_cases q : p < 0
      · rw [if_pos q]
      · have q' : ¬ p.toInt < 0 := fun t => q (a1.mpr t)
        rw [if_neg q, if_neg (fun t => by have := a2.mp t; omega)]
    · unfold fX9_stones
      rw [in9i _ 0 4 rfl rfl, cls, if_neg h, if_pos rfl]
