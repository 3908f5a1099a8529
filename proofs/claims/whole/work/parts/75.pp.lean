/-! ===== rows of stones: the class's steps ===== -/
theorem mxs {F a b : Nat} (hF : F < 2 ^ 30) (ha : a < 2 ^ 30) (hb : b < 2 ^ 30) : (if nI F < nI a - nI b then nI a - nI b else nI F) = nI (max F (a - b)) := by
  have t : (nI a - nI b).toInt = (a : Int) - b := pk_sub_toInt ha hb
  have i1 : nI F < nI a - nI b ↔ (F : Int) < (a : Int) - b := by rw [lt32, t, nI_toInt (by omega)]
  by_cases h : F + b < a
  · rw [if_pos (i1.mpr (by omega)), pk_sub (by omega), show max F (a - b) = a - b by omega]
  · rw [if_neg (fun t => h (by have := i1.mp t; omega)), show max F (a - b) = F by omega]
theorem mns {G a : Nat} (hG : G < 2 ^ 30) (ha : a < 2 ^ 30) : (if nI a < nI G then nI a else nI G) = nI (min G a) := by
  have i1 : nI a < nI G ↔ a < G := nI_ltI (by omega) (by omega)
  by_cases h : a < G
  · rw [if_pos (i1.mpr h), show min G a = a by omega]
  · rw [if_neg (fun t => h (i1.mp t)), show min G a = G by omega]
/-- the searches as they lie -/
def Sq (n : Nat) (set : Nat → Nat) (z : Mem) : Prop := z.1 6 4 = nI n ∧ ∀ s, s < n → z.1 17 s = nI (set s)
theorem isIn8 {n i s : Nat} {set : Nat → Nat} {z : Mem} (hn : n ≤ 8) (hset : ∀ s, s < n → set s < 32) (h : Sq n set z) (hi : i < 5) (hs : s < n) : fX4_isIn (nI i) (nI s) z = some (nI (set s / 2 ^ i % 2), z) := by
  unfold fX4_isIn
  have := hset s hs
  have hx : set s / 2 ^ i % 2 < 2 := Nat.mod_lt _ (by decide)
  rw [rgs (by omega) (by decide), lts, clamp (by omega), h.2 s hs, bit9 _ (by omega) i (by omega)]
  obtain e | e : set s / 2 ^ i % 2 = 0 ∨ set s / 2 ^ i % 2 = 1 := by omega
  · rw [e, if_neg (show ¬ nI 0 = (1 : Int32) by decide)]; rfl
  · rw [e, if_pos (show nI 1 = (1 : Int32) from rfl)]; rfl
theorem few_L {n i : Nat} {set mis : Nat → Nat} {z : Mem} (hn : n ≤ 8) (hset : ∀ s, s < n → set s < 32) (h : Sq n set z) (hi : i < 5) (hm : ∀ s, s < n → z.1 18 s = nI (mis s) ∧ mis s ≤ 45) (K : Int32 → Int32 → Mem → Option (Int32 × Mem)) : ∀ (d s f F : Nat), s + d = n → d < f → F ≤ 45 → ∃ F', fX4_fewestFor_L4 K (nI i) f (nI F) (nI s) z = K (nI F') (nI n) z ∧ F' ≤ 45 ∧ ∀ t, F' ≤ t ↔ F ≤ t ∧ ∀ s', s ≤ s' → s' < n → set s' / 2 ^ i % 2 = 1 → mis s' ≤ t + 9 * rb (set s') (i + 1) := by
  intro d
  induction d with
  | zero =>
    intro s f F h1 h2 h3
    obtain ⟨f, rfl⟩ : ∃ k, f = k + 1 := ⟨f - 1, by omega⟩
    obtain rfl : s = n := by omega
    exact ⟨F, by rw [fX4_fewestFor_L4_s, h.1, if_pos (nI_le (Nat.le_refl _) (by omega))], h3, fun t => ⟨fun q => ⟨q, fun s' a b => absurd a (by omega)⟩, fun q => q.1⟩⟩
  | succ d ih =>
    intro s f F h1 h2 h3
    obtain ⟨f, rfl⟩ : ∃ k, f = k + 1 := ⟨f - 1, by omega⟩
    have hs : s < n := by omega
    have hss := hset s hs
    have hx : set s / 2 ^ i % 2 < 2 := Nat.mod_lt _ (by decide)
    rw [fX4_fewestFor_L4_s, h.1, if_neg (nI_ge hs (by omega)), isIn8 hn hset h hi hs, cls]
    obtain e | e : set s / 2 ^ i % 2 = 0 ∨ set s / 2 ^ i % 2 = 1 := by omega
    · rw [e, if_pos (show nI 0 = 0 from rfl), lts, show nI s + (1 : Int32) = nI (s + 1) from nI_1 s]
      obtain ⟨F', a1, a2, a3⟩ := ih (s + 1) f F (by omega) (by omega) h3
      refine ⟨F', a1, a2, fun t => (a3 t).trans ⟨fun q => ⟨q.1, fun s' x y w => ?_⟩, fun q => ⟨q.1, fun s' x y w => q.2 s' (by omega) y w⟩⟩⟩
      by_cases es : s' = s
      · rw [es, e] at w; exact absurd w (by decide)
      · exact q.2 s' (by omega) y w
    · have hr := rb_le (set s) hss (i + 1) (by omega)
      have hmm := (hm s hs).2
      rw [e, if_neg (show ¬ nI 1 = 0 by decide), rgs (by omega) (by decide), lts, clamp (by omega), h.2 s hs, bcv_f, cls, rb_bc (set s) hss i hi, rgs (by omega) (by decide), lts, (hm s hs).1, k9, mxs (by omega) (by omega) (by omega), lts, lts, show nI s + (1 : Int32) = nI (s + 1) from nI_1 s]
      obtain ⟨F', a1, a2, a3⟩ := ih (s + 1) f (max F (mis s - 9 * rb (set s) (i + 1))) (by omega) (by omega) (by omega)
      refine ⟨F', a1, a2, fun t => (a3 t).trans ⟨fun q => ⟨by omega, fun s' x y w => ?_⟩, fun q => ⟨?_, fun s' x y w => q.2 s' (by omega) y w⟩⟩⟩
      · by_cases es : s' = s
        · rw [es]; omega
        · exact q.2 s' (by omega) y w
      · have := q.2 s (Nat.le_refl _) hs e
        omega
theorem few8 {n i : Nat} {set mis : Nat → Nat} {z : Mem} (hn : n ≤ 8) (hset : ∀ s, s < n → set s < 32) (h : Sq n set z) (hi : i < 5) (hm : ∀ s, s < n → z.1 18 s = nI (mis s) ∧ mis s ≤ 45) : ∃ F, fX4_fewestFor (nI i) z = some (nI F, z) ∧ F ≤ 45 ∧ ∀ t, F ≤ t ↔ ∀ s, s < n → set s / 2 ^ i % 2 = 1 → mis s ≤ t + 9 * rb (set s) (i + 1) := by
  obtain ⟨F, a1, a2, a3⟩ := few_L hn hset h hi hm (fun (x2_3 : Int32) (x3_4 : Int32) (z_2 : Mem) => some (x2_3, z_2)) n 0 FU 0 (by omega) (by unfold FU; omega) (by decide)
  exact ⟨F, a1, a2, fun t => (a3 t).trans ⟨fun q s x y => q.2 s (by omega) x y, fun q => ⟨by omega, fun s _ x y => q s x y⟩⟩⟩
theorem gre_L {n i : Nat} {set mis : Nat → Nat} {z : Mem} (hn : n ≤ 8) (hset : ∀ s, s < n → set s < 32) (h : Sq n set z) (hi : i < 5) (hm : ∀ s, s < n → z.1 18 s = nI (mis s) ∧ mis s ≤ 45) (K : Int32 → Int32 → Mem → Option (Int32 × Mem)) : ∀ (d s f F : Nat), s + d = n → d < f → F ≤ 9 → ∃ F', fX4_greatestFor_L5 K (nI i) f (nI F) (nI s) z = K (nI F') (nI n) z ∧ F' ≤ 9 ∧ ∀ t, t ≤ F' ↔ t ≤ F ∧ ∀ s', s ≤ s' → s' < n → set s' / 2 ^ i % 2 = 1 → t ≤ mis s' := by
  intro d
  induction d with
  | zero =>
    intro s f F h1 h2 h3
    obtain ⟨f, rfl⟩ : ∃ k, f = k + 1 := ⟨f - 1, by omega⟩
    obtain rfl : s = n := by omega
    exact ⟨F, by rw [fX4_greatestFor_L5_s, h.1, if_pos (nI_le (Nat.le_refl _) (by omega))], h3, fun t => ⟨fun q => ⟨q, fun s' a b => absurd a (by omega)⟩, fun q => q.1⟩⟩
  | succ d ih =>
    intro s f F h1 h2 h3
    obtain ⟨f, rfl⟩ : ∃ k, f = k + 1 := ⟨f - 1, by omega⟩
    have hs : s < n := by omega
    have hss := hset s hs
    have hx : set s / 2 ^ i % 2 < 2 := Nat.mod_lt _ (by decide)
    rw [fX4_greatestFor_L5_s, h.1, if_neg (nI_ge hs (by omega)), isIn8 hn hset h hi hs, cls]
    obtain e | e : set s / 2 ^ i % 2 = 0 ∨ set s / 2 ^ i % 2 = 1 := by omega
    · rw [e, if_pos (show nI 0 = 0 from rfl), lts, show nI s + (1 : Int32) = nI (s + 1) from nI_1 s]
      obtain ⟨F', a1, a2, a3⟩ := ih (s + 1) f F (by omega) (by omega) h3
      refine ⟨F', a1, a2, fun t => (a3 t).trans ⟨fun q => ⟨q.1, fun s' x y w => ?_⟩, fun q => ⟨q.1, fun s' x y w => q.2 s' (by omega) y w⟩⟩⟩
      by_cases es : s' = s
      · rw [es, e] at w; exact absurd w (by decide)
      · exact q.2 s' (by omega) y w
    · have hmm := (hm s hs).2
      rw [e, if_neg (show ¬ nI 1 = 0 by decide), rgs (by omega) (by decide), lts, clamp (by omega), (hm s hs).1, mns (by omega) (by omega), lts, lts, show nI s + (1 : Int32) = nI (s + 1) from nI_1 s]
      obtain ⟨F', a1, a2, a3⟩ := ih (s + 1) f (min F (mis s)) (by omega) (by omega) (by omega)
      refine ⟨F', a1, a2, fun t => (a3 t).trans ⟨fun q => ⟨by omega, fun s' x y w => ?_⟩, fun q => ⟨?_, fun s' x y w => q.2 s' (by omega) y w⟩⟩⟩
      · by_cases es : s' = s
        · rw [es]; omega
        · exact q.2 s' (by omega) y w
      · have := q.2 s (Nat.le_refl _) hs e
        omega
theorem gre8 {n i : Nat} {set mis : Nat → Nat} {z : Mem} (hn : n ≤ 8) (hset : ∀ s, s < n → set s < 32) (h : Sq n set z) (hi : i < 5) (hm : ∀ s, s < n → z.1 18 s = nI (mis s) ∧ mis s ≤ 45) : ∃ F, fX4_greatestFor (nI i) z = some (nI F, z) ∧ F ≤ 9 ∧ ∀ t, t ≤ F ↔ t ≤ 9 ∧ ∀ s, s < n → set s / 2 ^ i % 2 = 1 → t ≤ mis s := by
  obtain ⟨F, a1, a2, a3⟩ := gre_L hn hset h hi hm (fun (x2_3 : Int32) (x3_4 : Int32) (z_2 : Mem) => some (x2_3, z_2)) n 0 FU 9 (by omega) (by unfold FU; omega) (by decide)
  exact ⟨F, a1, a2, fun t => (a3 t).trans ⟨fun q => ⟨q.1, fun s x y => q.2 s (by omega) x y⟩, fun q => ⟨q.1, fun s _ x y => q.2 s x y⟩⟩⟩
theorem any_L {n i : Nat} {set : Nat → Nat} {z : Mem} (hn : n ≤ 8) (hset : ∀ s, s < n → set s < 32) (h : Sq n set z) (hi : i < 5) (K : Int32 → Mem → Option (Int32 × Mem)) : ∀ (d s f : Nat), s + d = n → d < f → (fX4_anySearched_L2 K (nI i) f (nI s) z = K (nI n) z ∧ ∀ s', s ≤ s' → s' < n → set s' / 2 ^ i % 2 = 0) ∨ (fX4_anySearched_L2 K (nI i) f (nI s) z = some (1, z) ∧ ∃ s', s' < n ∧ set s' / 2 ^ i % 2 = 1) := by
  intro d
  induction d with
  | zero =>
    intro s f h1 h2
    obtain ⟨f, rfl⟩ : ∃ k, f = k + 1 := ⟨f - 1, by omega⟩
    obtain rfl : s = n := by omega
    exact Or.inl ⟨by rw [fX4_anySearched_L2_s, h.1, if_pos (nI_le (Nat.le_refl _) (by omega))], fun s' a b => absurd a (by omega)⟩
  | succ d ih =>
    intro s f h1 h2
    obtain ⟨f, rfl⟩ : ∃ k, f = k + 1 := ⟨f - 1, by omega⟩
    have hs : s < n := by omega
    have hx : set s / 2 ^ i % 2 < 2 := Nat.mod_lt _ (by decide)
    rw [fX4_anySearched_L2_s, h.1, if_neg (nI_ge hs (by omega)), isIn8 hn hset h hi hs, cls]
    obtain e | e : set s / 2 ^ i % 2 = 0 ∨ set s / 2 ^ i % 2 = 1 := by omega
    · rw [e, if_pos (show nI 0 = 0 from rfl), lts, show nI s + (1 : Int32) = nI (s + 1) from nI_1 s]
      rcases ih (s + 1) f (by omega) (by omega) with ⟨a1, a2⟩ | ⟨a1, a2⟩
      · refine Or.inl ⟨a1, fun s' x y => ?_⟩
        by_cases es : s' = s
        · rw [es, e]
        · exact a2 s' (by omega) y
      · exact Or.inr ⟨a1, a2⟩
    · rw [e, if_neg (show ¬ nI 1 = 0 by decide)]
      exact Or.inr ⟨rfl, s, hs, e⟩
theorem any8 {n i : Nat} {set : Nat → Nat} {z : Mem} (hn : n ≤ 8) (hset : ∀ s, s < n → set s < 32) (h : Sq n set z) (hi : i < 5) : (fX4_anySearched (nI i) z = some (0, z) ∧ ∀ s, s < n → set s / 2 ^ i % 2 = 0) ∨ (fX4_anySearched (nI i) z = some (1, z) ∧ ∃ s, s < n ∧ set s / 2 ^ i % 2 = 1) := by
  rcases any_L hn hset h hi (fun (x2_3 : Int32) (z_2 : Mem) => some ((0 : Int32), z_2)) n 0 FU (by omega) (by unfold FU; omega) with ⟨a1, a2⟩ | ⟨a1, a2⟩
  · exact Or.inl ⟨a1, fun s hs => a2 s (by omega) hs⟩
  · exact Or.inr ⟨a1, a2⟩
theorem giv_L {n i : Nat} {set : Nat → Nat} (hn : n ≤ 8) (hset : ∀ s, s < n → set s < 32) (hi : i < 5) (v : Int32) (K : Int32 → Mem → Option (Unit × Mem)) : ∀ (d s f : Nat) (z : Mem), s + d = n → d < f → Sq n set z → ∃ y, fX4_give_L2 K (nI i) v f (nI s) z = K (nI n) y ∧ (∀ s', s ≤ s' → s' < n → y.1 18 s' = if set s' / 2 ^ i % 2 = 1 then z.1 18 s' - v else z.1 18 s') ∧ (∀ s', s' < s → y.1 18 s' = z.1 18 s') ∧ Out [18] z y := by
  intro d
  induction d with
  | zero =>
    intro s f z h1 h2 h
    obtain ⟨f, rfl⟩ : ∃ k, f = k + 1 := ⟨f - 1, by omega⟩
    obtain rfl : s = n := by omega
    exact ⟨z, by rw [fX4_give_L2_s, h.1, if_pos (nI_le (Nat.le_refl _) (by omega))], fun s' a b => absurd a (by omega), fun _ _ => rfl, Out.rf _ z⟩
  | succ d ih =>
    intro s f z h1 h2 h
    obtain ⟨f, rfl⟩ : ∃ k, f = k + 1 := ⟨f - 1, by omega⟩
    have hs : s < n := by omega
    have hx : set s / 2 ^ i % 2 < 2 := Nat.mod_lt _ (by decide)
    rw [fX4_give_L2_s, h.1, if_neg (nI_ge hs (by omega)), isIn8 hn hset h hi hs, cls]
    obtain e | e : set s / 2 ^ i % 2 = 0 ∨ set s / 2 ^ i % 2 = 1 := by omega
    · rw [e, if_pos (show nI 0 = 0 from rfl), lts, show nI s + (1 : Int32) = nI (s + 1) from nI_1 s]
      obtain ⟨y, a1, a2, a3, a4⟩ := ih (s + 1) f z (by omega) (by omega) h
      refine ⟨y, a1, fun s' x w => ?_, fun s' x => a3 s' (by omega), a4⟩
      by_cases es : s' = s
      · rw [es, e, if_neg (by decide)]; exact a3 s (by omega)
      · exact a2 s' (by omega) w
    · rw [e, if_neg (show ¬ nI 1 = 0 by decide), rgs (by omega) (by decide), lts, clamp (by omega), lts, rgs (by omega) (by decide), lts, lts, show nI s + (1 : Int32) = nI (s + 1) from nI_1 s]
      obtain ⟨y, a1, a2, a3, a4⟩ := ih (s + 1) f (sI z 18 s (z.1 18 s - v)) (by omega) (by omega) h
      refine ⟨y, a1, fun s' x w => ?_, fun s' x => ?_, (Out.sI [18] z _ _ (by decide)).tr a4⟩
      · by_cases es : s' = s
        · rw [es, e, if_pos rfl, a3 s (by omega)]
          show upd (z.1 18) s _ s = _
          rw [up1, if_pos rfl]
        · rw [a2 s' (by omega) w]
          show (if _ then upd (z.1 18) s _ s' - v else upd (z.1 18) s _ s') = _
          rw [up1, if_neg es]
      · rw [a3 s' (by omega)]
        show upd (z.1 18) s _ s' = _
        rw [up1, if_neg (by omega)]
theorem giv8 {n i : Nat} {set : Nat → Nat} {z : Mem} (hn : n ≤ 8) (hset : ∀ s, s < n → set s < 32) (h : Sq n set z) (hi : i < 5) (v : Int32) : ∃ y, fX4_give (nI i) v z = some ((), y) ∧ (∀ s, s < n → y.1 18 s = if set s / 2 ^ i % 2 = 1 then z.1 18 s - v else z.1 18 s) ∧ Out [18] z y := by
  obtain ⟨y, a1, a2, _, a4⟩ := giv_L hn hset hi v (fun (x3_3 : Int32) (z_2 : Mem) => some ((), z_2)) n 0 FU z (by omega) (by unfold FU; omega) h
  exact ⟨y, a1, fun s hs => a2 s (by omega) hs, a4⟩
theorem not8 {i f g r : Nat} (hi : i < 5) (hf : f < 2 ^ 30) (hg : g < 2 ^ 30) (hr : r < 2 ^ 30) (z : Mem) : ∃ y, fX4_noted (nI i) (nI f) (nI g) (nI r) z = some (nI r, y) ∧ Out [19, 20] z y ∧ (∀ k, k ≠ i → y.1 19 k = z.1 19 k ∧ y.1 20 k = z.1 20 k) ∧ (r = 0 → y.1 19 i = z.1 19 i ∧ y.1 20 i = z.1 20 i) ∧ (r ≠ 0 → (y.1 19 i).toInt = min (z.1 19 i).toInt f ∧ (y.1 20 i).toInt = max (z.1 20 i).toInt g) := by
  unfold fX4_noted
  by_cases h : r = 0
  · refine ⟨z, by rw [h, if_pos (show nI 0 ≤ 0 by decide)], Out.rf _ z, fun _ _ => ⟨rfl, rfl⟩, fun _ => ⟨rfl, rfl⟩, fun q => absurd h q⟩
  · refine ⟨sI (sI z 19 i (if nI f < z.1 19 i then nI f else z.1 19 i)) 20 i (if z.1 20 i < nI g then nI g else z.1 20 i), ?_, (Out.sI [19, 20] z _ _ (by decide)).tr (Out.sI _ _ _ _ (by decide)), fun k hk => ⟨?_, ?_⟩, fun q => absurd q h, fun _ => ⟨?_, ?_⟩⟩
    · have e : ∀ v, (sI z 19 i v).1 20 i = z.1 20 i := fun v => rfl
      rw [if_neg (nI_nle (by omega) (by omega)), if_neg (nI_pos (by omega)), if_neg (show ¬ (5 : Int32) ≤ nI i from nI_ge (b := 5) hi (by decide)), rgs hi (by decide), lts, lts, rgs hi (by decide), lts, rgs hi (by decide), lts, lts, rgs hi (by decide), lts, clamp (by omega), e]
    · show upd (z.1 19) i _ k = _
      rw [up1, if_neg hk]
    · show upd (z.1 20) i _ k = _
      rw [up1, if_neg hk]
    · show (upd (z.1 19) i _ i).toInt = _
      rw [up1, if_pos rfl]
      by_cases q : nI f < z.1 19 i
      · have := lt32.mp q
        rw [nI_toInt (by omega)] at this
        rw [if_pos q, nI_toInt (by omega)]
        omega
      · have : ¬ (nI f).toInt < (z.1 19 i).toInt := fun t => q (lt32.mpr t)
        rw [nI_toInt (by omega)] at this
        rw [if_neg q]
        omega
    · show (upd (z.1 20) i _ i).toInt = _
      rw [up1, if_pos rfl]
      by_cases q : z.1 20 i < nI g
      · have := lt32.mp q
        rw [nI_toInt (by omega)] at this
        rw [if_pos q, nI_toInt (by omega)]
        omega
      · have : ¬ (z.1 20 i).toInt < (nI g).toInt := fun t => q (lt32.mpr t)
        rw [nI_toInt (by omega)] at this
        rw [if_neg q]
        omega
