/-! ===== rows, stones ===== -/
theorem fill19 (v : Int32) (K : Int32 → Mem → Option (Unit × Mem)) : ∀ (d j n : Nat) (z : Mem), j + d = 5 → d < n → (∀ i, i < j → z.1 19 i = v) → ∃ y, fJ7_fill_53178_19_L5 K v n (nI j) z = K (nI 5) y ∧ (∀ i, i < 5 → y.1 19 i = v) ∧ Out [19] z y := by
  intro d
  induction d with
  | zero =>
    intro j n z h1 h2 h3
    obtain ⟨n, rfl⟩ : ∃ k, n = k + 1 := ⟨n - 1, by omega⟩
    obtain rfl : j = 5 := by omega
    exact ⟨z, by rw [fJ7_fill_53178_19_L5_s, if_pos (show (5 : Int32) ≤ nI 5 by decide)], h3, Out.rf _ z⟩
  | succ d ih =>
    intro j n z h1 h2 h3
    obtain ⟨n, rfl⟩ : ∃ k, n = k + 1 := ⟨n - 1, by omega⟩
    obtain ⟨y, y1, y2, y3⟩ := ih (j + 1) n (sI z 19 j v) (by omega) (by omega) (fun i hi => by
      show upd (z.1 19) j v i = v
      rw [up1]
      by_cases e : i = j
      · rw [if_pos e]
      · rw [if_neg e]; exact h3 i (by omega))
    refine ⟨y, ?_, y2, (Out.sI [19] z _ _ (by decide)).tr y3⟩
    rw [fJ7_fill_53178_19_L5_s, if_neg (show ¬ (5 : Int32) ≤ nI j from nI_ge (b := 5) (by omega) (by decide)), rgs (by omega) (by decide), lts, lts, clamp (by omega), show nI j + (1 : Int32) = nI (j + 1) from nI_1 j, y1]
theorem fill20 (v : Int32) (K : Int32 → Mem → Option (Unit × Mem)) : ∀ (d j n : Nat) (z : Mem), j + d = 5 → d < n → (∀ i, i < j → z.1 20 i = v) → ∃ y, fJ7_fill_53178_20_L5 K v n (nI j) z = K (nI 5) y ∧ (∀ i, i < 5 → y.1 20 i = v) ∧ Out [20] z y := by
  intro d
  induction d with
  | zero =>
    intro j n z h1 h2 h3
    obtain ⟨n, rfl⟩ : ∃ k, n = k + 1 := ⟨n - 1, by omega⟩
    obtain rfl : j = 5 := by omega
    exact ⟨z, by rw [fJ7_fill_53178_20_L5_s, if_pos (show (5 : Int32) ≤ nI 5 by decide)], h3, Out.rf _ z⟩
  | succ d ih =>
    intro j n z h1 h2 h3
    obtain ⟨n, rfl⟩ : ∃ k, n = k + 1 := ⟨n - 1, by omega⟩
    obtain ⟨y, y1, y2, y3⟩ := ih (j + 1) n (sI z 20 j v) (by omega) (by omega) (fun i hi => by
      show upd (z.1 20) j v i = v
      rw [up1]
      by_cases e : i = j
      · rw [if_pos e]
      · rw [if_neg e]; exact h3 i (by omega))
    refine ⟨y, ?_, y2, (Out.sI [20] z _ _ (by decide)).tr y3⟩
    rw [fJ7_fill_53178_20_L5_s, if_neg (show ¬ (5 : Int32) ≤ nI j from nI_ge (b := 5) (by omega) (by decide)), rgs (by omega) (by decide), lts, lts, clamp (by omega), show nI j + (1 : Int32) = nI (j + 1) from nI_1 j, y1]
theorem ofTI {x : Int32} {v : Nat} (hv : v < 2 ^ 31) (h : x.toInt = (v : Int)) : x = nI v := Int32.toInt_inj.mp (by rw [h, nI_toInt hv])
theorem frows {S : AS} {z : Mem} (hG : Gq S) (hC : Cq S z) : ∃ y, fX4_fittingRows z = some (nI (rowsN S), y) ∧ Cq S y ∧ ¬ y.1 6 6 = 0 ∧ Out [6, 18, 19, 20] z y := by
  unfold fX4_fittingRows
  by_cases h : z.1 6 6 = 0
  · obtain ⟨z1, a1, a2, a3⟩ := fill19 10 (fun (x2_3 : Int32) (z_2 : Mem) => some ((), z_2)) 5 0 FU z (by decide) (by unfold FU; decide) (fun i hi => absurd hi (by omega))
    obtain ⟨z2, b1, b2, b3⟩ := fill20 (-9) (fun (x2_3 : Int32) (z_2 : Mem) => some ((), z_2)) 5 0 FU z1 (by decide) (by unfold FU; decide) (fun i hi => absurd hi (by omega))
    have a1' : fJ7_fill_53178_19 (10 : Int32) z = some ((), z1) := a1
    have b1' : fJ7_fill_53178_20 (-9 : Int32) z1 = some ((), z2) := b1
    have S2 : St5 S 0 0 z2 := by
      refine ⟨⟨?_, fun s hs => ?_⟩, fun s hs => ?_⟩
      · rw [(b3 6 (by decide)).1, (a3 6 (by decide)).1]; exact hC.1
      · rw [(b3 17 (by decide)).1, (a3 17 (by decide)).1]; exact (hC.2.1 s hs).1
      · rw [(b3 18 (by decide)).1, (a3 18 (by decide)).1]; exact (hC.2.1 s hs).2
    have I2 : Ip S 0 0 := ⟨by decide, fun s hs => ⟨Nat.zero_le _, fun t => by
      have := hG.2 s hs
      rw [Nat.pow_zero, Nat.div_one] at t
      omega⟩⟩
    obtain ⟨y, c1, c2, c3, c4⟩ := rows5 hG 0 z2 I2 S2
    have c1' : fX4_rowsFrom_d0 (0 : Int32) z2 = some (nI (rowsN S), y) := by rw [rowsN_eq]; exact c1
    have oy : Out [6, 18, 19, 20] z y := ((a3.more (by decide)).tr (b3.more (by decide))).tr (c3.more (by decide))
    refine ⟨sI (sI y 6 5 (nI (rowsN S))) 6 6 1, ?_, ⟨?_, fun j hj => ⟨?_, ?_⟩, Or.inr ⟨one0, rfl, fun h0 one h1 => ?_⟩⟩, one0, (oy.tr (Out.sI _ _ _ _ (by decide))).tr (Out.sI _ _ _ _ (by decide))⟩
    · rw [if_pos h, a1', cls, b1', cls, c1', cls, lts, lts]
      rfl
    · show y.1 6 4 = _
      rw [(c3 6 (by decide)).1]; exact S2.1.1
    · show y.1 17 j = _
      rw [(c3 17 (by decide)).1]; exact S2.1.2 j hj
    · show y.1 18 j = _
      rw [c2 j hj, S2.2 j hj]
      rfl
    · have l := (c4 one h1).2 (Nat.zero_le _)
      have e19 : (z2.1 19 one).toInt = 10 := by rw [(b3 19 (by decide)).1, a2 one h1]; rfl
      have e20 : (z2.1 20 one).toInt = -9 := by rw [b2 one h1]; rfl
      rw [e19, e20] at l
      rw [rowsN_eq] at h0
      have he := (cnt5_pos (S := S) (i := 0) (by decide) (by decide)).mp h0
      obtain ⟨v, v1, v2, v3⟩ := l.1.is (by decide) he
      obtain ⟨w, w1, w2, w3⟩ := l.2.is (by decide) he
      exact ⟨v, w, ofTI (by omega) v1, v3, ofTI (by omega) w1, w3⟩
  · have hf : z.1 6 5 = nI (rowsN S) := by
      rcases hC.2.2 with q | q
      · exact absurd q h
      · exact q.2.1
    exact ⟨z, by rw [if_neg h, hf], hC, h, Out.rf _ z⟩
/-! the reference -/
def fitP (S : AS) (c : Nat) : Nat → Bool
  | 0 => true
  | s + 1 => fitP S c s && decide (tp (S.2.1 7 s) c 5 = S.2.1 8 s)
theorem fitP_eq (S : AS) (c : Nat) : fitP S c (S.1 7) = fitN S c := by
  unfold fitN
  have : ∀ n, fitP S c n = (List.range n).all (fun s => decide (togN (S.2.1 7 s) c = S.2.1 8 s)) := by
    intro n
    induction n with
    | zero => rfl
    | succ n ih =>
      rw [List.range_succ, List.all_append, ← ih]
      show (fitP S c n && decide (tp (S.2.1 7 n) c 5 = S.2.1 8 n)) = (fitP S c n && (decide (togN (S.2.1 7 n) c = S.2.1 8 n) && true))
      rw [tp_tog, Bool.and_true]
  exact this _
theorem fitP_no {S : AS} {c s : Nat} (h : fitP S c s = false) (d : Nat) : fitP S c (s + d) = false := by
  induction d with
  | zero => exact h
  | succ d ih =>
    show (fitP S c (s + d) && _) = false
    rw [ih]
    rfl
theorem c10s (c k : Nat) : c / 10 ^ k / 10 = c / 10 ^ (k + 1) := by rw [Nat.div_div_eq_div_mul, Nat.pow_succ]
theorem tog_L {S : AS} {y : Mem} {s c : Nat} (hs : s < 8) (hset : S.2.1 7 s < 32) (h33 : y.1 33 s = nI (S.2.1 7 s)) (hc : c < 100000) (K : Int32 → Int32 → Int32 → Mem → Option (Int32 × Mem)) : ∀ (d k n : Nat), k + d = 5 → d < n → fX9_fits_L25 K (nI s) n (nI (tp (S.2.1 7 s) c k)) (nI (c / 10 ^ k)) (nI k) y = K (nI (tp (S.2.1 7 s) c 5)) (nI (c / 10 ^ 5)) (nI 5) y := by
  intro d
  induction d with
  | zero =>
    intro k n h1 h2
    obtain ⟨n, rfl⟩ : ∃ k, n = k + 1 := ⟨n - 1, by omega⟩
    obtain rfl : k = 5 := by omega
    rw [fX9_fits_L25_s, if_pos (show (5 : Int32) ≤ nI 5 by decide)]
  | succ d ih =>
    intro k n h1 h2
    obtain ⟨n, rfl⟩ : ∃ k, n = k + 1 := ⟨n - 1, by omega⟩
    have hck : c / 10 ^ k < 2 ^ 31 := Nat.lt_of_le_of_lt (Nat.div_le_self _ _) (by omega)
    rw [fX9_fits_L25_s, if_neg (show ¬ (5 : Int32) ≤ nI k from nI_ge (b := 5) (by omega) (by decide)), rgs hs (by decide), lts, clamp (by omega), h33, nzs (by decide), lts, nzs (by decide), lts, lts, bit9 _ (by omega) k (by omega), show nI (c / 10 ^ k) - nI (c / 10 ^ k) / (10 : Int32) * (10 : Int32) = nI (c / 10 ^ k % 10) from pk_rem (d := 10) hck (by decide) (by decide), show nI (c / 10 ^ k) / (10 : Int32) = nI (c / 10 ^ k / 10) from pk_div (d := 10) hck (by decide) (by decide), pk_mul, nI_add, c10s, show nI k + (1 : Int32) = nI (k + 1) from nI_1 k]
    exact ih (k + 1) n (by omega) (by omega)
theorem fit_L {S : AS} {y : Mem} {c : Nat} (hG : Gq S) (hR : Rq S y) (hc : c < 100000) (K : Int32 → Int32 → Mem → Option (Int32 × Mem)) : ∀ (d s n : Nat), s + d = S.1 7 → d < n → ∃ x, fX9_fits_L4 K (nI c) n (bI (fitP S c s)) (nI s) y = K (bI (fitN S c)) x y := by
  have hn := hG.1
  intro d
  induction d with
  | zero =>
    intro s n h1 h2
    obtain ⟨n, rfl⟩ : ∃ k, n = k + 1 := ⟨n - 1, by omega⟩
    obtain rfl : s = S.1 7 := by omega
    exact ⟨_, by rw [fX9_fits_L4_s, hR.1, if_pos (nI_le (Nat.le_refl _) (by omega)), fitP_eq]⟩
  | succ d ih =>
    intro s n h1 h2
    obtain ⟨n, rfl⟩ : ∃ k, n = k + 1 := ⟨n - 1, by omega⟩
    have hs : s < S.1 7 := by omega
    obtain ⟨g1, g2, g3⟩ := hG.2 s hs
    rw [fX9_fits_L4_s, hR.1, if_neg (nI_ge hs (by omega))]
    cases hb : fitP S c s
    · refine ⟨nI s, ?_⟩
      have := fitP_no hb (d + 1)
      rw [h1, fitP_eq] at this
      rw [if_pos (show bI false = 0 from rfl), this]
    · rw [if_neg (show ¬ bI true = 0 by decide)]
      generalize hK : (fun (x4_13 : Int32) (x5_14 : Int32) (x6_15 : Int32) (z_12 : Mem) => rg (nI s) 8 (lt ((z_12.1 34 (nI s).toNatClampNeg) : Int32) (fun a_17 => (if x4_13 = a_17 then lt (nI s + (1 : Int32)) (fun x3_20 => (fX9_fits_L4 K (nI c) n (1 : Int32) x3_20 z_12)) else lt (nI s + (1 : Int32)) (fun x3_19 => (fX9_fits_L4 K (nI c) n (0 : Int32) x3_19 z_12)))))) = K'
      have h := tog_L (S := S) (y := y) (s := s) (c := c) (by omega) (by omega) (hR.2 s hs).1 hc K' 5 0 FU (by decide) (by unfold FU; decide)
      rw [Nat.pow_zero, Nat.div_one] at h
      have h' : fX9_fits_L25 K' (nI s) FU (0 : Int32) (nI c) (0 : Int32) y = _ := h
      rw [h', ← hK]
      dsimp only
      have tl : tp (S.2.1 7 s) c 5 ≤ 45 := by
        have t1 := tp_rest (set := S.2.1 7 s) (by omega) c 5 0 (by decide)
        have t2 := rb_le (S.2.1 7 s) (by omega) 0 (by decide)
        have t3 : tp (S.2.1 7 s) c 0 = 0 := rfl
        omega
      rw [rgs (by omega) (by decide), lts, clamp (by omega), (hR.2 s hs).2, show nI s + (1 : Int32) = nI (s + 1) from nI_1 s, lts, lts]
      obtain ⟨x, hx⟩ := ih (s + 1) n (by omega) (by omega)
      refine ⟨x, ?_⟩
      rw [← hx]
      have eb : fitP S c (s + 1) = decide (tp (S.2.1 7 s) c 5 = S.2.1 8 s) := by
        show (fitP S c s && _) = _
        rw [hb, Bool.true_and]
      rw [eb]
      by_cases q : tp (S.2.1 7 s) c 5 = S.2.1 8 s
      · rw [if_pos (show nI (tp (S.2.1 7 s) c 5) = nI (S.2.1 8 s) by rw [q]), decide_eq_true q]; rfl
      · rw [if_neg (fun t => q ((nI_eq (by omega) (by omega)).mp t)), decide_eq_false q]; rfl
theorem fits9 {S : AS} {y : Mem} {c : Nat} (hG : Gq S) (hR : Rq S y) (hc : c < 100000) : fX9_fits (nI c) y = some (bI (fitN S c), y) := by
  obtain ⟨x, h⟩ := fit_L hG hR hc (fun (x2_3 : Int32) (x3_4 : Int32) (z_2 : Mem) => (bo x2_3 (some (x2_3, z_2)))) (S.1 7) 0 FU (by omega) (by have := hG.1; unfold FU; omega)
  have h' : fX9_fits (nI c) y = bo (bI (fitN S c)) (some (bI (fitN S c), y)) := h
  rw [h']
  unfold bI
  rw [bos]
theorem ten_L {k : Nat} (hk : k < 5) (K : Int32 → Int32 → Mem → Option (Int32 × Mem)) (y : Mem) : ∀ (d j n : Nat), j + d = k → d < n → fX9_tenTo_L4 K (nI k) n (nI (10 ^ j)) (nI j) y = K (nI (10 ^ k)) (nI k) y := by
  intro d
  induction d with
  | zero =>
    intro j n h1 h2
    obtain ⟨n, rfl⟩ : ∃ k, n = k + 1 := ⟨n - 1, by omega⟩
    obtain rfl : j = k := by omega
    rw [fX9_tenTo_L4_s, if_pos (nI_le (Nat.le_refl _) (by omega))]
  | succ d ih =>
    intro j n h1 h2
    obtain ⟨n, rfl⟩ : ∃ k, n = k + 1 := ⟨n - 1, by omega⟩
    rw [fX9_tenTo_L4_s, if_neg (nI_ge (by omega) (by omega)), lts, lts, show nI (10 ^ j) * (10 : Int32) = nI (10 ^ (j + 1)) from pk_mul (10 ^ j) 10, show nI j + (1 : Int32) = nI (j + 1) from nI_1 j]
    exact ih (j + 1) n (by omega) (by omega)
theorem ten9 {k : Nat} (hk : k < 5) (y : Mem) : fX9_tenTo (nI k) y = some (nI (10 ^ k), y) := ten_L hk (fun (x1_3 : Int32) (x2_4 : Int32) (z_2 : Mem) => some (x1_3, z_2)) y k 0 FU (by omega) (by unfold FU; omega)
theorem pw4 : ∀ k, k < 5 → 10 ^ k < 2 ^ 31 ∧ 0 < 10 ^ k := by decide
theorem lay_L {c : Nat} (hc : c < 100000) (K : Int32 → Mem → Option (Int32 × Mem)) : ∀ (d k n : Nat) (y : Mem), k + d = 5 → d < n → ∃ w, fX9_layRows_L51 K (nI c) n (nI k) y = K (nI 5) w ∧ (∀ j, k ≤ j → j < 5 → (w.1 35 j).toInt = min (y.1 35 j).toInt (dg c j) ∧ (w.1 36 j).toInt = max (y.1 36 j).toInt (dg c j)) ∧ (∀ j, j < k → w.1 35 j = y.1 35 j ∧ w.1 36 j = y.1 36 j) ∧ Out [35, 36] y w := by
  intro d
  induction d with
  | zero =>
    intro k n y h1 h2
    obtain ⟨n, rfl⟩ : ∃ k, n = k + 1 := ⟨n - 1, by omega⟩
    obtain rfl : k = 5 := by omega
    exact ⟨y, by rw [fX9_layRows_L51_s, if_pos (show (5 : Int32) ≤ nI 5 by decide)], fun j a b => absurd a (by omega), fun _ _ => ⟨rfl, rfl⟩, Out.rf _ y⟩
  | succ d ih =>
    intro k n y h1 h2
    obtain ⟨n, rfl⟩ : ∃ k, n = k + 1 := ⟨n - 1, by omega⟩
    have hk : k < 5 := by omega
    obtain ⟨p1, p2⟩ := pw4 k hk
    have hd9 := dg_le c k
    have td : (nI (dg c k)).toInt = (dg c k : Int) := nI_toInt (by omega)
    obtain ⟨w, w1, w2, w3, w4⟩ := ih (k + 1) n (sI (sI y 35 k (if y.1 35 k ≤ nI (dg c k) then y.1 35 k else nI (dg c k))) 36 k (if nI (dg c k) ≤ y.1 36 k then y.1 36 k else nI (dg c k))) (by omega) (by omega)
    refine ⟨w, ?_, fun j a b => ?_, fun j a => ?_, ((Out.sI [35, 36] y _ _ (by decide)).tr (Out.sI _ _ _ _ (by decide))).tr w4⟩
    · have dd : nI c / nI (10 ^ k) - nI c / nI (10 ^ k) / (10 : Int32) * (10 : Int32) = nI (dg c k) := by
        rw [pk_div (by omega) p2 p1]
        exact pk_rem (d := 10) (Nat.lt_of_le_of_lt (Nat.div_le_self _ _) (by omega)) (by decide) (by decide)
      have e36 : ∀ v, (sI y 35 k v).1 36 k = y.1 36 k := fun v => rfl
      rw [fX9_layRows_L51_s, if_neg (show ¬ (5 : Int32) ≤ nI k from nI_ge (b := 5) hk (by decide)), ten9 hk, cls, nzs (nI_ne0 p2 p1), nzs (by decide), lts, dd, rgs hk (by decide), lts, clamp (by omega), jns]
      dsimp only
      have step : ∀ v, rg (nI k) 5 (lt (sI y 35 k v) (fun z_39 => rg (nI k) 5 (lt ((z_39.1 36 k) : Int32) (fun a_41 => (if nI (dg c k) ≤ a_41 then rg (nI k) 5 (lt ((z_39.1 36 k) : Int32) (fun a_44 => rg (nI k) 5 (lt (sI z_39 36 k a_44) (fun z_46 => lt (nI k + (1 : Int32)) (fun x3_47 => (fX9_layRows_L51 K (nI c) n x3_47 z_46)))))) else rg (nI k) 5 (lt (sI z_39 36 k (nI (dg c k))) (fun z_49 => lt (nI k + (1 : Int32)) (fun x3_50 => (fX9_layRows_L51 K (nI c) n x3_50 z_49)))))))))
          = fX9_layRows_L51 K (nI c) n (nI (k + 1)) (sI (sI y 35 k v) 36 k (if nI (dg c k) ≤ y.1 36 k then y.1 36 k else nI (dg c k))) := by
        intro v
        rw [rgs hk (by decide), lts, rgs hk (by decide), lts, e36, show nI k + (1 : Int32) = nI (k + 1) from nI_1 k]
        by_cases q : nI (dg c k) ≤ y.1 36 k
        · rw [if_pos q, if_pos q, rgs hk (by decide), lts, rgs hk (by decide), lts, lts]
        · rw [if_neg q, if_neg q, rgs hk (by decide), lts, lts]
      rw [← w1]
      by_cases q : y.1 35 k ≤ nI (dg c k)
      · rw [if_pos q, if_pos q, rgs hk (by decide), lts]
        exact step _
      · rw [if_neg q, if_neg q]
        exact step _
    · by_cases e : j = k
      · subst e
        rw [(w3 j (by omega)).1, (w3 j (by omega)).2]
        show (upd (y.1 35) j _ j).toInt = _ ∧ (upd (y.1 36) j _ j).toInt = _
        rw [up1, if_pos rfl, up1, if_pos rfl]
        constructor
        · by_cases q : y.1 35 j ≤ nI (dg c j)
          · have := le32.mp q
            rw [if_pos q]
            omega
          · have : ¬ (y.1 35 j).toInt ≤ (nI (dg c j)).toInt := fun t => q (le32.mpr t)
            rw [if_neg q]
            omega
        · by_cases q : nI (dg c j) ≤ y.1 36 j
          · have := le32.mp q
            rw [if_pos q]
            omega
          · have : ¬ (nI (dg c j)).toInt ≤ (y.1 36 j).toInt := fun t => q (le32.mpr t)
            rw [if_neg q]
            omega
      · have := w2 j (by omega) b
        rw [this.1, this.2]
        show min (upd (y.1 35) k _ j).toInt _ = _ ∧ max (upd (y.1 36) k _ j).toInt _ = _
        rw [up1, if_neg e, up1, if_neg e]
        exact ⟨rfl, rfl⟩
    · rw [(w3 j (by omega)).1, (w3 j (by omega)).2]
      show upd (y.1 35) k _ j = _ ∧ upd (y.1 36) k _ j = _
      rw [up1, if_neg (by omega), up1, if_neg (by omega)]
      exact ⟨rfl, rfl⟩
