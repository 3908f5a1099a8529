/-! ===== the text and its first fault ===== -/
def may (j c : Nat) : Bool := if j = 0 then decide (c = 82) else if j = 1 then decide (48 ≤ c ∧ c < 51) else if j < 4 then decide (48 ≤ c ∧ c ≤ 57) else if (j - 4) % 6 = 0 then decide (c = 80 ∧ (j - 4) / 6 < 5) else if (j - 4) % 6 = 1 then decide (49 ≤ c ∧ c ≤ 57) else decide (48 ≤ c ∧ c ≤ 57)
def isF (l : Nat) (b : Nat → Nat) (f : Nat) : Prop := f ≤ l ∧ (∀ i, i < f → may i (b i) = true) ∧ (f < l → may f (b f) = false)
theorem isF.u {l : Nat} {b : Nat → Nat} {f g : Nat} (h : isF l b f) (k : isF l b g) : f = g := by
  rcases Nat.lt_trichotomy f g with q | q | q
  · have h1 := h.2.2 (by have := k.1; omega)
    rw [k.2.1 f q] at h1
    exact absurd h1 (by decide)
  · exact q
  · have h1 := k.2.2 (by have := h.1; omega)
    rw [h.2.1 g q] at h1
    exact absurd h1 (by decide)
def flr (l f : Nat) : Int32 := if f = l ∧ 4 ≤ l ∧ (l - 4) % 6 = 0 then -9 else nI f
theorem ne9 {n : Nat} (h : n < 2 ^ 31) : ¬ nI n = -9 := by
  intro e
  have := congrArg Int32.toInt e
  rw [nI_toInt h, show (-9 : Int32).toInt = -9 from rfl] at this
  omega
theorem dig1 {c lo : Nat} (hc : c < 256) (hlo : lo < 256) (z : Mem) : (if nI c < nI lo then some ((0 : Int32), z) else (if (57 : Int32) < nI c then some ((0 : Int32), z) else some ((1 : Int32), z))) = some (bI (decide (lo ≤ c ∧ c ≤ 57)), z) := by
  have a1 : nI c < nI lo ↔ c < lo := nI_ltI (by omega) (by omega)
  have a2 : (57 : Int32) < nI c ↔ 57 < c := nI_ltI (a := 57) (by decide) (by omega)
  by_cases q : c < lo
  · rw [if_pos (a1.mpr q), decide_eq_false (by omega)]; rfl
  · rw [if_neg (fun t => q (a1.mp t))]
    by_cases w : 57 < c
    · rw [if_pos (a2.mpr w), decide_eq_false (by omega)]; rfl
    · rw [if_neg (fun t => w (a2.mp t)), decide_eq_true (by omega)]; rfl
theorem mst {j c : Nat} (hj : j < 48) (hc : c < 256) (z : Mem) : fX1_mayStandAt (nI j) (nI c) z = some (bI (may j c), z) := by
  have i0 : nI j = 0 ↔ j = 0 := nI_eq (b := 0) (by omega) (by decide)
  have i1 : nI j = (1 : Int32) ↔ j = 1 := nI_eq (b := 1) (by omega) (by decide)
  have i4 : nI j < (4 : Int32) ↔ j < 4 := nI_ltI (b := 4) (by omega) (by decide)
  have c82 : nI c = (82 : Int32) ↔ c = 82 := nI_eq (b := 82) (by omega) (by decide)
  have c80 : nI c = (80 : Int32) ↔ c = 80 := nI_eq (b := 80) (by omega) (by decide)
  have c48 : nI c < (48 : Int32) ↔ c < 48 := nI_ltI (b := 48) (by omega) (by decide)
  have c51 : (51 : Int32) ≤ nI c ↔ 51 ≤ c := nI_leI (a := 51) (by decide) (by omega)
  have n6 : ¬ (6 : Int32) = 0 := by decide
  unfold fX1_mayStandAt may
  by_cases j0 : j = 0
  · rw [if_pos (i0.mpr j0), if_pos j0]
    by_cases q : c = 82
    · rw [if_pos (c82.mpr q), decide_eq_true q]; rfl
    · rw [if_neg (fun t => q (c82.mp t)), decide_eq_false q]; rfl
  · rw [if_neg (fun t => j0 (i0.mp t)), if_neg j0]
    by_cases j1 : j = 1
    · rw [if_pos (i1.mpr j1), if_pos j1]
      by_cases q : c < 48
      · rw [if_pos (c48.mpr q), decide_eq_false (by omega)]; rfl
      · rw [if_neg (fun t => q (c48.mp t))]
        by_cases w : 51 ≤ c
        · rw [if_pos (c51.mpr w), decide_eq_false (by omega)]; rfl
        · rw [if_neg (fun t => w (c51.mp t)), decide_eq_true (by omega)]; rfl
    · rw [if_neg (fun t => j1 (i1.mp t)), if_neg j1]
      by_cases j4 : j < 4
      · rw [if_pos (i4.mpr j4), if_pos j4, jns]
        dsimp only
        rw [if_pos (i4.mpr j4), jns]
        dsimp only
        rw [if_pos rfl]
        exact dig1 (lo := 48) hc (by decide) z
      · have s4 : nI j - (4 : Int32) = nI (j - 4) := pk_sub (b := 4) (by omega)
        have r6 : nI (j - 4) - nI (j - 4) / (6 : Int32) * (6 : Int32) = nI ((j - 4) % 6) := pk_rem (d := 6) (by omega) (by decide) (by decide)
        have d6 : nI (j - 4) / (6 : Int32) = nI ((j - 4) / 6) := pk_div (d := 6) (by omega) (by decide) (by decide)
        have e0 : nI ((j - 4) % 6) = 0 ↔ (j - 4) % 6 = 0 := nI_eq (b := 0) (by omega) (by decide)
        have e1 : nI ((j - 4) % 6) = (1 : Int32) ↔ (j - 4) % 6 = 1 := nI_eq (b := 1) (by omega) (by decide)
        have e5 : (5 : Int32) ≤ nI ((j - 4) / 6) ↔ 5 ≤ (j - 4) / 6 := nI_leI (a := 5) (by decide) (by omega)
        rw [if_neg (fun t => j4 (i4.mp t)), if_neg j4, nzs n6, s4, r6, d6]
        by_cases q0 : (j - 4) % 6 = 0
        · rw [if_pos (e0.mpr q0), if_pos q0]
          by_cases q : c = 80
          · rw [if_pos (c80.mpr q), nzs n6]
            by_cases w : 5 ≤ (j - 4) / 6
            · rw [if_pos (e5.mpr w), decide_eq_false (by omega)]; rfl
            · rw [if_neg (fun t => w (e5.mp t)), decide_eq_true (by omega)]; rfl
          · rw [if_neg (fun t => q (c80.mp t)), decide_eq_false (by omega)]; rfl
        · rw [if_neg (fun t => q0 (e0.mp t)), if_neg q0, jns]
          dsimp only
          rw [if_neg (fun t => j4 (i4.mp t)), nzs n6]
          by_cases q1 : (j - 4) % 6 = 1
          · rw [if_pos (e1.mpr q1), if_pos q1, jns]
            dsimp only
            rw [if_neg one0]
            exact dig1 (lo := 49) hc (by decide) z
          · rw [if_neg (fun t => q1 (e1.mp t)), if_neg q1, jns]
            dsimp only
            rw [if_pos rfl]
            exact dig1 (lo := 48) hc (by decide) z
theorem ff_L {l : Nat} {b : Nat → Nat} {z : Mem} (hl : l ≤ 48) (hb : ∀ i, i < l → b i < 256) (h1 : z.1 1 1 = nI l) (h2 : ∀ i, i < l → z.1 10 i = nI (b i)) (K : Int32 → Mem → Option (Int32 × Mem)) : ∀ (d j n : Nat), j + d = l → d < n → (∀ i, i < j → may i (b i) = true) → ∃ f, isF l b f ∧ ((f = l ∧ fX1_firstFault_L2 K n (nI j) z = K (nI l) z) ∨ (f < l ∧ fX1_firstFault_L2 K n (nI j) z = some (nI f, z))) := by
  intro d
  induction d with
  | zero =>
    intro j n g1 g2 g3
    obtain ⟨n, rfl⟩ : ∃ k, n = k + 1 := ⟨n - 1, by omega⟩
    obtain rfl : j = l := by omega
    refine ⟨j, ⟨Nat.le_refl j, g3, fun q => absurd q (by omega)⟩, Or.inl ⟨rfl, ?_⟩⟩
    rw [fX1_firstFault_L2_s, h1, if_pos (nI_le (Nat.le_refl _) (by omega))]
  | succ d ih =>
    intro j n g1 g2 g3
    obtain ⟨n, rfl⟩ : ∃ k, n = k + 1 := ⟨n - 1, by omega⟩
    have hj : j < l := by omega
    rw [fX1_firstFault_L2_s, h1, if_neg (nI_ge hj (by omega)), rgs (by omega) (by decide), lts, clamp (by omega), h2 j hj, mst (by omega) (hb j hj), cls]
    cases hm : may j (b j)
    · rw [if_pos (show bI false = 0 from rfl)]
      exact ⟨j, ⟨by omega, g3, fun _ => hm⟩, Or.inr ⟨hj, rfl⟩⟩
    · rw [if_neg (show ¬ bI true = 0 by decide), lts, show nI j + (1 : Int32) = nI (j + 1) from nI_1 j]
      refine ih (j + 1) n (by omega) (by omega) (fun i hi => ?_)
      by_cases e : i = j
      · rw [e, hm]
      · exact g3 i (by omega)
theorem ff8 {l : Nat} {b : Nat → Nat} {z : Mem} (hl : l ≤ 48) (hb : ∀ i, i < l → b i < 256) (h1 : z.1 1 1 = nI l) (h2 : ∀ i, i < l → z.1 10 i = nI (b i)) : ∃ f, isF l b f ∧ fX1_firstFault z = some (flr l f, z) := by
  unfold fX1_firstFault
  generalize hK : (fun (x1_3 : Int32) (z_2 : Mem) => (if (z_2.1 1 1) < (4 : Int32) then some ((z_2.1 1 1), z_2) else nz (6 : Int32) ((if (((z_2.1 1 1) - (4 : Int32)) - ((z_2.1 1 1) - (4 : Int32)) / (6 : Int32) * (6 : Int32)) = 0 then some ((-9 : Int32), z_2) else some ((z_2.1 1 1), z_2))))) = K
  obtain ⟨f, f1, f2⟩ := ff_L hl hb h1 h2 K l 0 FU (by omega) (by unfold FU; omega) (fun i hi => absurd hi (by omega))
  refine ⟨f, f1, ?_⟩
  have i4 : nI l < (4 : Int32) ↔ l < 4 := nI_ltI (b := 4) (by omega) (by decide)
  rcases f2 with ⟨e, g⟩ | ⟨e, g⟩
  · have g' : fX1_firstFault_L2 K FU (0 : Int32) z = K (nI l) z := g
    rw [g', ← hK]
    dsimp only
    rw [h1]
    unfold flr
    by_cases q : l < 4
    · rw [if_pos (i4.mpr q), if_neg (by omega), e]
    · have s4 : nI l - (4 : Int32) = nI (l - 4) := pk_sub (b := 4) (by omega)
      have r6 : nI (l - 4) - nI (l - 4) / (6 : Int32) * (6 : Int32) = nI ((l - 4) % 6) := pk_rem (d := 6) (by omega) (by decide) (by decide)
      have e0 : nI ((l - 4) % 6) = 0 ↔ (l - 4) % 6 = 0 := nI_eq (b := 0) (by omega) (by decide)
      rw [if_neg (fun t => q (i4.mp t)), nzs (by decide), s4, r6]
      by_cases w : (l - 4) % 6 = 0
      · rw [if_pos (e0.mpr w), if_pos ⟨e, by omega, w⟩]
      · rw [if_neg (fun t => w (e0.mp t)), if_neg (fun t => w t.2.2), e]
  · have g' : fX1_firstFault_L2 K FU (0 : Int32) z = some (nI f, z) := g
    rw [g']
    unfold flr
    rw [if_neg (by omega)]
/-! the reference reads -/
def RS (l : Nat) (b : Nat → Nat) (z : Mem) (j : Nat) : Prop := (z.1 25 13 = -9 ∧ z.1 25 12 = nI j ∧ j ≤ l ∧ ∀ i, i < j → may i (b i) = true) ∨ (∃ f, z.1 25 13 = nI f ∧ isF l b f ∧ ¬ (f = l ∧ 4 ≤ l ∧ (l - 4) % 6 = 0))
def Fr (z y : Mem) : Prop := (∀ k, k ≠ 12 → k ≠ 13 → y.1 25 k = z.1 25 k) ∧ (∀ q, q ≠ 25 → y.1 q = z.1 q) ∧ y.2 = z.2
theorem Fr12 (z : Mem) (v : Int32) : Fr z (sI z 25 12 v) := ⟨fun k h _ => by rw [sI1, if_pos rfl, up1, if_neg h], fun q h => by rw [sI1, if_neg h], rfl⟩
theorem Fr13 (z : Mem) (v : Int32) : Fr z (sI z 25 13 v) := ⟨fun k _ h => by rw [sI1, if_pos rfl, up1, if_neg h], fun q h => by rw [sI1, if_neg h], rfl⟩
theorem fig {l : Nat} {b : Nat → Nat} {z : Mem} {j : Nat} (lo hi : Nat) (hl : l ≤ 48) (hb : ∀ i, i < l → b i < 256) (ht : z.1 25 11 = nI l) (hx : ∀ i, i < l → z.1 28 i = nI (b i)) (hm : ∀ c, c < 256 → (may j c = true ↔ lo + 48 ≤ c ∧ c ≤ hi + 48)) (h9 : lo ≤ 9 ∧ hi ≤ 9) (hj : ¬ (4 ≤ j ∧ (j - 4) % 6 = 0)) (hR : RS l b z j) : ∃ v y, fX9_figure (nI lo) (nI hi) z = some (nI v, y) ∧ RS l b y (j + 1) ∧ (y.1 25 13 = -9 → z.1 25 13 = -9 ∧ v = b j - 48) ∧ Fr z y := by
  have tl : (nI lo).toInt64.toInt = (lo : Int) := by rw [Int32.toInt_toInt64, nI_toInt (by omega)]
  have th : (nI hi).toInt64.toInt = (hi : Int) := by rw [Int32.toInt_toInt64, nI_toInt (by omega)]
  have in1 : ∀ p : Int32, ((lo : Int) ≤ p.toInt ∧ p.toInt ≤ (hi : Int)) → ∀ z, fX9_in p.toInt64 (nI lo).toInt64 (nI hi).toInt64 z = some (1, z) := fun p h z => by rw [in9i _ (lo : Int) (hi : Int) tl th, if_pos h]
  have in0 : ∀ p : Int32, ¬ ((lo : Int) ≤ p.toInt ∧ p.toInt ≤ (hi : Int)) → ∀ z, fX9_in p.toInt64 (nI lo).toInt64 (nI hi).toInt64 z = some (0, z) := fun p h z => by rw [in9i _ (lo : Int) (hi : Int) tl th, if_neg h]
  have m1 : ¬ ((lo : Int) ≤ (-1 : Int32).toInt ∧ (-1 : Int32).toInt ≤ (hi : Int)) := by rw [show (-1 : Int32).toInt = -1 from rfl]; omega
  unfold fX9_figure
  rw [jns]
  dsimp only
  rcases hR with ⟨r1, r2, r3, r4⟩ | ⟨f, r1, r2, r3⟩
  · rw [if_pos r1, ht, r2]
    by_cases q : l ≤ j
    · rw [if_pos (nI_le q (by omega)), in0 _ m1, cls, if_pos rfl, if_pos r1, lts, lts, r2]
      refine ⟨0, _, rfl, Or.inr ⟨j, rfl, ⟨r3, r4, fun w => absurd w (by omega)⟩, fun w => hj (by omega)⟩, fun w => ?_, Fr13 z _⟩
      have w : nI j = -9 := w
      exact absurd w (ne9 (by omega))
    · have hjl : j < l := by omega
      have hbj := hb j hjl
      rw [if_neg (nI_ge hjl (by omega)), lts, rgs (by omega) (by decide), lts, clamp (by omega), hx j hjl]
      have tb8 : (nI (b j) - (48 : Int32)).toInt = (b j : Int) - 48 := pk_sub_toInt (b := 48) (by omega) (by decide)
      by_cases w : lo + 48 ≤ b j ∧ b j ≤ hi + 48
      · rw [in1 _ (by rw [tb8]; omega), cls, if_neg one0, lts, lts, r2, show nI j + (1 : Int32) = nI (j + 1) from nI_1 j, show nI (b j) - (48 : Int32) = nI (b j - 48) from pk_sub (b := 48) (by omega)]
        refine ⟨b j - 48, _, rfl, Or.inl ⟨r1, rfl, by omega, fun i hi => ?_⟩, fun _ => ⟨r1, rfl⟩, Fr12 z _⟩
        by_cases e : i = j
        · rw [e]; exact (hm _ hbj).mpr w
        · exact r4 i (by omega)
      · rw [in0 _ (by rw [tb8]; omega), cls, if_pos rfl, if_pos r1, lts, lts, r2]
        refine ⟨0, _, rfl, Or.inr ⟨j, rfl, ⟨r3, r4, fun _ => ?_⟩, fun t => by omega⟩, fun t => ?_, Fr13 z _⟩
        · cases hh : may j (b j)
          · rfl
          · exact absurd ((hm _ hbj).mp hh) w
        · have t : nI j = -9 := t
          exact absurd t (ne9 (by omega))
  · have hf := r2.1
    have n9 : ¬ z.1 25 13 = -9 := by rw [r1]; exact ne9 (by omega)
    rw [if_neg n9, in0 _ m1, cls, if_pos rfl, if_neg n9, lts, lts]
    refine ⟨0, _, rfl, Or.inr ⟨f, r1, r2, r3⟩, fun t => ?_, Fr13 z _⟩
    have t : z.1 25 13 = -9 := t
    exact absurd t n9
