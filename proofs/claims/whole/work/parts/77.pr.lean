theorem sub_back (x v : Int32) : x - v - (-v) = x := by
  rw [Int32.sub_eq_add_neg (x - v) (-v), Int32.neg_neg, Int32.sub_add_cancel]
theorem loop5 {S : AS} (hG : Gq S) {i pre F G : Nat} (hi : i < 5) {R : Int32 → Mem → Option (Int32 × Mem)} (hR : Pr5 S (i + 1) R) {z : Mem} (hI : Ip S i pre) (hS : St5 S i pre z) (hG9 : G ≤ 9) (hF45 : F ≤ 45) (hF : ∀ t, F ≤ t ↔ ∀ s, s < S.1 7 → S.2.1 7 s / 2 ^ i % 2 = 1 → S.2.1 8 s - tp (S.2.1 7 s) pre i ≤ t + 9 * rb (S.2.1 7 s) (i + 1)) (hGr : ∀ t, t ≤ G ↔ t ≤ 9 ∧ ∀ s, s < S.1 7 → S.2.1 7 s / 2 ^ i % 2 = 1 → t ≤ S.2.1 8 s - tp (S.2.1 7 s) pre i) :
    ∀ (e d f : Nat) (z' : Mem), G + 1 ≤ d + e → e < f → F ≤ d → d ≤ 45 → Out [18, 19, 20] z z' → (∀ s, s < S.1 7 → z'.1 18 s = z.1 18 s) → LM (fun c => Qc S i pre c ∧ dg c i < d) i z z' →
    ∃ y, gL R (fun (x4_15 : Int32) (x5_16 : Int32) (z_14 : Mem) => some (x4_15, z_14)) (nI i) (nI G) f (nI (sm d (fun j => if F ≤ j ∧ j ≤ G then cnt5 S (i + 1) (pre + 10 ^ i * j) else 0))) (nI d) z' = some (nI (cnt5 S i pre), y) ∧ (∀ s, s < S.1 7 → y.1 18 s = z.1 18 s) ∧ Out [18, 19, 20] z y ∧ LM (Qc S i pre) i z y := by
  have hn : S.1 7 ≤ 8 := hG.1
  have hset : ∀ s, s < S.1 7 → S.2.1 7 s < 32 := fun s hs => by have := hG.2 s hs; omega
  have hp := hI.1
  have bnd : ∀ c, Qc S i pre c → F ≤ dg c i ∧ dg c i ≤ G := fun c hc => ⟨(hF _).mpr fun s hs hb => (fit_in hG hi hp hc hs hb).1, (hGr _).mpr ⟨dg_le c i, fun s hs hb => (fit_in hG hi hp hc hs hb).2⟩⟩
  have whole : sm 10 (fun j => if F ≤ j ∧ j ≤ G then cnt5 S (i + 1) (pre + 10 ^ i * j) else 0) = cnt5 S i pre := by
    rw [cnt5_s S hi]
    refine sm_congr fun j hj => ?_
    by_cases q : F ≤ j ∧ j ≤ G
    · rw [if_pos q]
    · rw [if_neg q]
      by_cases c0 : cnt5 S (i + 1) (pre + 10 ^ i * j) = 0
      · exact c0.symm
      · obtain ⟨c, hc⟩ := (cnt5_pos (S := S) (i := i + 1) (by omega) (pre_next hp hj)).mp c0
        have hq := (Qc_dig hp hj).mp hc
        have := bnd c hq.1
        rw [hq.2] at this
        exact absurd this q
  have ex : ∀ (d f : Nat) (z' : Mem), G < d → d ≤ 45 → 1 ≤ f → Out [18, 19, 20] z z' → (∀ s, s < S.1 7 → z'.1 18 s = z.1 18 s) → LM (fun c => Qc S i pre c ∧ dg c i < d) i z z' →
    ∃ y, gL R (fun (x4_15 : Int32) (x5_16 : Int32) (z_14 : Mem) => some (x4_15, z_14)) (nI i) (nI G) f (nI (sm d (fun j => if F ≤ j ∧ j ≤ G then cnt5 S (i + 1) (pre + 10 ^ i * j) else 0))) (nI d) z' = some (nI (cnt5 S i pre), y) ∧ (∀ s, s < S.1 7 → y.1 18 s = z.1 18 s) ∧ Out [18, 19, 20] z y ∧ LM (Qc S i pre) i z y := by
    intro d f z' h1 h2 h3 h4 h5 h6
    obtain ⟨f, rfl⟩ : ∃ k, f = k + 1 := ⟨f - 1, by omega⟩
    refine ⟨z', ?_, h5, h4, ?_⟩
    · rw [gL_s, if_pos (nI_lt h1 (by omega)), ← whole]
      by_cases q : d ≤ 10
      · rw [sm_tail (a := d) (b := 10) q (fun j a b => if_neg (by omega))]
      · rw [sm_tail (a := 10) (b := d) (by omega) (fun j a b => if_neg (by omega))]
    · have : (fun c => Qc S i pre c ∧ dg c i < d) = Qc S i pre := by
        funext c
        exact propext ⟨fun q => q.1, fun q => ⟨q, by have := bnd c q; omega⟩⟩
      rw [← this]
      exact h6
  intro e
  induction e with
  | zero =>
    intro d f z' h1 h2 h3 h4 h5 h6 h7
    exact ex d f z' (by omega) h4 (by omega) h5 h6 h7
  | succ e ih =>
    intro d f z' h1 h2 h3 h4 h5 h6 h7
    by_cases q : G < d
    · exact ex d f z' q h4 (by omega) h5 h6 h7
    · obtain ⟨f, rfl⟩ : ∃ k, f = k + 1 := ⟨f - 1, by omega⟩
      have hd : d < 10 := by omega
      have dF := (hF d).mp h3
      have dG := ((hGr d).mp (by omega)).2
      have S' : St5 S i pre z' := hS.go h5 h6
      obtain ⟨z1, a1, a2, a3⟩ := giv8 hn hset S'.1 hi (nI d)
      have hb2 : ∀ s, S.2.1 7 s / 2 ^ i % 2 = 0 ∨ S.2.1 7 s / 2 ^ i % 2 = 1 := fun s => by have := Nat.mod_lt (S.2.1 7 s / 2 ^ i) (show 0 < 2 by decide); omega
      have I1 : Ip S (i + 1) (pre + 10 ^ i * d) := by
        refine ⟨pre_next hp hd, fun s hs => ?_⟩
        rw [tp_next hp hd]
        have k1 := hI.2 s hs
        have k3 := half2 (S.2.1 7 s) i
        rcases hb2 s with b | b
        · rw [b] at k3 ⊢
          rw [Nat.zero_mul, Nat.add_zero]
          exact ⟨k1.1, fun t => k1.2 (by omega)⟩
        · rw [b, Nat.one_mul]
          have k4 := dF s hs b
          have k5 := dG s hs b
          refine ⟨by omega, fun t => ?_⟩
          rw [rb_0 t] at k4
          omega
      have S1 : St5 S (i + 1) (pre + 10 ^ i * d) z1 := by
        refine ⟨⟨?_, fun s hs => ?_⟩, fun s hs => ?_⟩
        · rw [(a3 6 (by decide)).1]; exact S'.1.1
        · rw [(a3 17 (by decide)).1]; exact S'.1.2 s hs
        · rw [a2 s hs, S'.2 s hs, tp_next hp hd]
          have k1 := hI.2 s hs
          rcases hb2 s with b | b
          · rw [b, if_neg (by decide), Nat.zero_mul, Nat.add_zero]
          · rw [b, if_pos rfl, Nat.one_mul, pk_sub (dG s hs b)]
            congr 1
            omega
      obtain ⟨z2, b1, b2, b3, b4⟩ := hR (pre + 10 ^ i * d) z1 I1 S1
      have hc5 : cnt5 S (i + 1) (pre + 10 ^ i * d) ≤ 10 ^ 5 := Nat.le_trans (cnt5_le S _ _) (Nat.pow_le_pow_right (by decide) (by omega))
      obtain ⟨z3, c1, c2, c3, c4, c5⟩ := not8 (f := d) (g := d) (r := cnt5 S (i + 1) (pre + 10 ^ i * d)) hi (by omega) (by omega) (by omega) z2
      have S3 : Sq (S.1 7) (S.2.1 7) z3 := by
        refine ⟨?_, fun s hs => ?_⟩
        · rw [(c2 6 (by decide)).1, (b3 6 (by decide)).1]; exact S1.1.1
        · rw [(c2 17 (by decide)).1, (b3 17 (by decide)).1]; exact S1.1.2 s hs
      obtain ⟨z4, d1, d2, d3⟩ := giv8 hn hset S3 hi (-(nI d))
      have o4 : Out [18, 19, 20] z z4 := (((h5.tr (a3.more (by decide))).tr b3).tr (c2.more (by decide))).tr (d3.more (by decide))
      have m4 : ∀ s, s < S.1 7 → z4.1 18 s = z.1 18 s := by
        intro s hs
        rw [d2 s hs, (c2 18 (by decide)).1, b2 s hs, a2 s hs, ← h6 s hs]
        by_cases w : S.2.1 7 s / 2 ^ i % 2 = 1
        · rw [if_pos w, if_pos w, sub_back]
        · rw [if_neg w, if_neg w]
      have l3 := note_LM hi hp hd b4 c3 c4 c5
      have l4 : LM (Qc S (i + 1) (pre + 10 ^ i * d)) i z' z4 := by
        intro k hk
        have := l3 k hk
        rw [(a3 19 (by decide)).1, (a3 20 (by decide)).1] at this
        rw [(d3 19 (by decide)).1, (d3 20 (by decide)).1]
        exact this
      have l5 : LM (fun c => Qc S i pre c ∧ dg c i < d + 1) i z z4 := h7.join l4 (fun c => by
        rw [Qc_dig hp hd]
        constructor
        · rintro ⟨x1, x2⟩
          by_cases w : dg c i < d
          · exact Or.inl ⟨x1, w⟩
          · exact Or.inr ⟨x1, by omega⟩
        · rintro (⟨x1, x2⟩ | ⟨x1, x2⟩)
          · exact ⟨x1, by omega⟩
          · exact ⟨x1, by omega⟩)
      obtain ⟨y, y1, y2, y3, y4⟩ := ih (d + 1) f z4 (by omega) (by omega) (by omega) (by omega) o4 m4 l5
      refine ⟨y, ?_, y2, y3, y4⟩
      rw [← y1, gL_s, if_neg (nI_nlt (by omega) (by omega)), a1, cls, show nI i + (1 : Int32) = nI (i + 1) from nI_1 i, b1, cls, c1, cls, lts, d1, cls, lts, show nI d + (1 : Int32) = nI (d + 1) from nI_1 d, nI_add]
      have : sm d (fun j => if F ≤ j ∧ j ≤ G then cnt5 S (i + 1) (pre + 10 ^ i * j) else 0) + cnt5 S (i + 1) (pre + 10 ^ i * d) = sm (d + 1) (fun j => if F ≤ j ∧ j ≤ G then cnt5 S (i + 1) (pre + 10 ^ i * j) else 0) := by
        show _ = _ + (if F ≤ d ∧ d ≤ G then cnt5 S (i + 1) (pre + 10 ^ i * d) else 0)
        rw [if_pos (by omega)]
      rw [this]
theorem lev5 {S : AS} (hG : Gq S) {i : Nat} (hi : i < 5) {R : Int32 → Mem → Option (Int32 × Mem)} (hR : Pr5 S (i + 1) R) : Pr5 S i (gR R) := by
  intro pre z hI hS
  have hn : S.1 7 ≤ 8 := hG.1
  have hset : ∀ s, s < S.1 7 → S.2.1 7 s < 32 := fun s hs => by have := hG.2 s hs; omega
  have hp := hI.1
  have hm : ∀ s, s < S.1 7 → z.1 18 s = nI (S.2.1 8 s - tp (S.2.1 7 s) pre i) ∧ S.2.1 8 s - tp (S.2.1 7 s) pre i ≤ 45 := fun s hs => ⟨hS.2 s hs, by have := hG.2 s hs; omega⟩
  obtain ⟨F, f1, f2, f3⟩ := few8 (mis := fun s => S.2.1 8 s - tp (S.2.1 7 s) pre i) hn hset hS.1 hi hm
  obtain ⟨G, g1, g2, g3⟩ := gre8 (mis := fun s => S.2.1 8 s - tp (S.2.1 7 s) pre i) hn hset hS.1 hi hm
  unfold gR
  rw [if_neg (nI_pos (by omega)), if_pos (show nI i < (5 : Int32) from nI_lt (b := 5) hi (by decide)), f1, cls, g1, cls]
  rcases any8 hn hset hS.1 hi with ⟨a1, a2⟩ | ⟨a1, a2⟩
  · rw [a1, cls, if_pos rfl, show nI i + (1 : Int32) = nI (i + 1) from nI_1 i]
    have hF0 : F = 0 := by
      have := (f3 0).mpr (fun s hs hb => by rw [a2 s hs] at hb; exact absurd hb (by decide))
      omega
    have hG9 : G = 9 := by
      have := (g3 9).mpr ⟨by decide, fun s hs hb => by rw [a2 s hs] at hb; exact absurd hb (by decide)⟩
      omega
    have tp0 : ∀ s, s < S.1 7 → tp (S.2.1 7 s) pre (i + 1) = tp (S.2.1 7 s) pre i := fun s hs => by
      show tp (S.2.1 7 s) pre i + S.2.1 7 s / 2 ^ i % 2 * dg pre i = _
      rw [a2 s hs, Nat.zero_mul, Nat.add_zero]
    have I1 : Ip S (i + 1) pre := by
      refine ⟨by rw [Nat.pow_succ]; omega, fun s hs => ?_⟩
      rw [tp0 s hs]
      have k3 := half2 (S.2.1 7 s) i
      rw [a2 s hs] at k3
      exact ⟨(hI.2 s hs).1, fun t => (hI.2 s hs).2 (by omega)⟩
    have S1 : St5 S (i + 1) pre z := ⟨hS.1, fun s hs => by rw [tp0 s hs]; exact hS.2 s hs⟩
    obtain ⟨z2, b1, b2, b3, b4⟩ := hR pre z I1 S1
    have hc5 : cnt5 S (i + 1) pre ≤ 10 ^ 5 := Nat.le_trans (cnt5_le S _ _) (Nat.pow_le_pow_right (by decide) (by omega))
    obtain ⟨z3, c1, c2, c3, c4, c5⟩ := not8 (f := F) (g := G) (r := cnt5 S (i + 1) pre) hi (by omega) (by omega) (by omega) z2
    rw [b1, cls, c1, cls, k10, ← cnt5_free hi a2 hp]
    have hp1 : pre < 10 ^ (i + 1) := I1.1
    have hpd : Qc S (i + 1) pre = Qc S (i + 1) (pre + 10 ^ i * 0) := rfl
    refine ⟨z3, rfl, fun s hs => by rw [(c2 18 (by decide)).1]; exact b2 s hs, b3.tr (c2.more (by decide)), fun k hk => ⟨fun q => ?_, fun q => ?_⟩⟩
    · rw [(c3 k (by omega)).1, (c3 k (by omega)).2]
      exact (b4 k hk).1 (by omega)
    · have up : ∀ c, Qc S (i + 1) pre c → Qc S i pre c := fun c hc => ((Qc_dig (d := 0) hp (by decide)).mp hc).1
      by_cases e : k = i
      · subst e
        have u := (b4 k hk).1 (by omega)
        by_cases c0 : cnt5 S (k + 1) pre = 0
        · have nq : ∀ c, ¬ Qc S k pre c := fun c hc => by
            obtain ⟨x, x1, x2, _⟩ := Qc_free hi a2 hp hc 0 (by decide)
            exact (cnt5_pos (S := S) (i := k + 1) (by omega) hp1).mpr ⟨x, (Qc_dig (d := 0) hp (by decide)).mpr ⟨x1, x2⟩⟩ c0
          rw [(c4 c0).1, (c4 c0).2, u.1, u.2]
          exact ⟨lowR.none nq k _, highR.none nq k _⟩
        · obtain ⟨c, hc⟩ := (cnt5_pos (S := S) (i := k + 1) (by omega) hp1).mp c0
          obtain ⟨x, x1, x2, _⟩ := Qc_free hi a2 hp (up c hc) 0 (by decide)
          obtain ⟨w, w1, w2, _⟩ := Qc_free hi a2 hp (up c hc) 9 (by decide)
          rw [(c5 c0).1, (c5 c0).2, u.1, u.2, hF0, hG9]
          refine ⟨⟨by omega, ?_, fun t ht => by omega⟩, ⟨by omega, ?_, fun t ht => by have := dg_le t k; omega⟩⟩
          · by_cases g : (z.1 19 k).toInt ≤ 0
            · exact Or.inl (by omega)
            · exact Or.inr ⟨x, x1, by rw [x2]; omega⟩
          · by_cases g : (9 : Int) ≤ (z.1 20 k).toInt
            · exact Or.inl (by omega)
            · exact Or.inr ⟨w, w1, by rw [w2]; omega⟩
      · have u := (b4 k hk).2 (by omega)
        rw [(c3 k e).1, (c3 k e).2]
        have dn : ∀ c, Qc S i pre c → ∃ x, Qc S (i + 1) pre x ∧ dg x k = dg c k := fun c hc => by
          obtain ⟨x, x1, x2, x3⟩ := Qc_free hi a2 hp hc 0 (by decide)
          exact ⟨x, (Qc_dig (d := 0) hp (by decide)).mpr ⟨x1, x2⟩, x3 k (by omega)⟩
        refine ⟨⟨u.1.1, ?_, fun c hc => ?_⟩, ⟨u.2.1, ?_, fun c hc => ?_⟩⟩
        · rcases u.1.2.1 with t | ⟨x, x1, x2⟩
          · exact Or.inl t
          · exact Or.inr ⟨x, up x x1, x2⟩
        · obtain ⟨x, x1, x2⟩ := dn c hc
          rw [← x2]
          exact u.1.2.2 x x1
        · rcases u.2.2.1 with t | ⟨x, x1, x2⟩
          · exact Or.inl t
          · exact Or.inr ⟨x, up x x1, x2⟩
        · obtain ⟨x, x1, x2⟩ := dn c hc
          rw [← x2]
          exact u.2.2.2 x x1
  · rw [a1, cls, if_neg one0]
    have z0 : sm F (fun j => if F ≤ j ∧ j ≤ G then cnt5 S (i + 1) (pre + 10 ^ i * j) else 0) = 0 := sm_zero fun j hj => if_neg (by omega)
    have nq : ∀ c, ¬ (Qc S i pre c ∧ dg c i < F) := fun c hc => by
      have := (f3 (dg c i)).mpr fun s hs hb => (fit_in hG hi hp hc.1 hs hb).1
      have := hc.2
      omega
    have h := loop5 hG hi hR hI hS g2 f2 f3 g3 10 F FU z (by omega) (by unfold FU; decide) (Nat.le_refl _) f2 (Out.rf _ z) (fun _ _ => rfl) (LM.none nq i z)
    rw [z0] at h
    exact h
theorem rows5 {S : AS} (hG : Gq S) : Pr5 S 0 fX4_rowsFrom_d0 := by
  have h4 : Pr5 S 4 fX4_rowsFrom_d4 := fun pre z a b => by rw [gR4]; exact lev5 hG (by decide) (leaf5 hG) pre z a b
  have h3 : Pr5 S 3 fX4_rowsFrom_d3 := fun pre z a b => by rw [gR3]; exact lev5 hG (by decide) h4 pre z a b
  have h2 : Pr5 S 2 fX4_rowsFrom_d2 := fun pre z a b => by rw [gR2]; exact lev5 hG (by decide) h3 pre z a b
  have h1 : Pr5 S 1 fX4_rowsFrom_d1 := fun pre z a b => by rw [gR1]; exact lev5 hG (by decide) h2 pre z a b
  exact fun pre z a b => by rw [gR0]; exact lev5 hG (by decide) h1 pre z a b
