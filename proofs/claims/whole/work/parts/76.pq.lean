/-! ===== rows of stones: the class's recursion ===== -/
def gL (R : Int32 → Mem → Option (Int32 × Mem)) (K_13 : Int32 → Int32 → Mem → Option (Int32 × Mem)) (p1 : Int32) (r_6 : Int32) : Nat → Int32 → Int32 → Mem → Option (Int32 × Mem)
  | 0, _, _, _ => none
  | n_20 + 1, x4_18, x5_19, z_17 => (if r_6 < x5_19 then (K_13 x4_18 x5_19 z_17) else cl (fX4_give p1 x5_19 z_17) (fun _ z_23 => cl (R (p1 + (1 : Int32)) z_23) (fun r_25 z_26 => cl (fX4_noted p1 x5_19 x5_19 r_25 z_26) (fun r_28 z_29 => lt ((x4_18 + r_28) : Int32) (fun x4_31 => cl (fX4_give p1 (-x5_19) z_29) (fun _ z_33 => lt (x5_19 + (1 : Int32)) (fun x5_35 => (gL R K_13 p1 r_6 n_20 x4_31 x5_35 z_33))))))))
theorem gL_s (R : Int32 → Mem → Option (Int32 × Mem)) (K_13 : Int32 → Int32 → Mem → Option (Int32 × Mem)) (p1 : Int32) (r_6 : Int32) (n_20 : Nat) (x4_18 x5_19 : Int32) (z_17 : Mem) : gL R K_13 p1 r_6 (n_20 + 1) x4_18 x5_19 z_17 = (if r_6 < x5_19 then (K_13 x4_18 x5_19 z_17) else cl (fX4_give p1 x5_19 z_17) (fun _ z_23 => cl (R (p1 + (1 : Int32)) z_23) (fun r_25 z_26 => cl (fX4_noted p1 x5_19 x5_19 r_25 z_26) (fun r_28 z_29 => lt ((x4_18 + r_28) : Int32) (fun x4_31 => cl (fX4_give p1 (-x5_19) z_29) (fun _ z_33 => lt (x5_19 + (1 : Int32)) (fun x5_35 => (gL R K_13 p1 r_6 n_20 x4_31 x5_35 z_33)))))))) := rfl
def gR (R : Int32 → Mem → Option (Int32 × Mem)) (p1 : Int32) (z : Mem) : Option (Int32 × Mem) := (if p1 < 0 then some ((1 : Int32), z) else (if p1 < (5 : Int32) then cl (fX4_fewestFor p1 z) (fun r_3 z_4 => cl (fX4_greatestFor p1 z_4) (fun r_6 z_7 => cl (fX4_anySearched p1 z_7) (fun r_9 z_10 => (if r_9 = 0 then cl (R (p1 + (1 : Int32)) z_10) (fun r_36 z_37 => cl (fX4_noted p1 r_3 r_6 r_36 z_37) (fun r_39 z_40 => some (((10 : Int32) * r_39), z_40))) else (gL R (fun (x4_15 : Int32) (x5_16 : Int32) (z_14 : Mem) => some (x4_15, z_14)) p1 r_6 FU (0 : Int32) r_3 z_10))))) else some ((1 : Int32), z)))
theorem gL0 (K : Int32 → Int32 → Mem → Option (Int32 × Mem)) (p r : Int32) : ∀ n, fX4_rowsFrom_d0_L55 K p r n = gL fX4_rowsFrom_d1 K p r n := by
  intro n
  induction n with
  | zero => rfl
  | succ n ih =>
    funext x y z
    rw [fX4_rowsFrom_d0_L55_s, ih]
    rfl
theorem gR0 (p : Int32) (z : Mem) : fX4_rowsFrom_d0 p z = gR fX4_rowsFrom_d1 p z := by
  unfold fX4_rowsFrom_d0 gR
  simp only [gL0]
theorem gL1 (K : Int32 → Int32 → Mem → Option (Int32 × Mem)) (p r : Int32) : ∀ n, fX4_rowsFrom_d1_L55 K p r n = gL fX4_rowsFrom_d2 K p r n := by
  intro n
  induction n with
  | zero => rfl
  | succ n ih =>
    funext x y z
    rw [fX4_rowsFrom_d1_L55_s, ih]
    rfl
theorem gR1 (p : Int32) (z : Mem) : fX4_rowsFrom_d1 p z = gR fX4_rowsFrom_d2 p z := by
  unfold fX4_rowsFrom_d1 gR
  simp only [gL1]
theorem gL2 (K : Int32 → Int32 → Mem → Option (Int32 × Mem)) (p r : Int32) : ∀ n, fX4_rowsFrom_d2_L55 K p r n = gL fX4_rowsFrom_d3 K p r n := by
  intro n
  induction n with
  | zero => rfl
  | succ n ih =>
    funext x y z
    rw [fX4_rowsFrom_d2_L55_s, ih]
    rfl
theorem gR2 (p : Int32) (z : Mem) : fX4_rowsFrom_d2 p z = gR fX4_rowsFrom_d3 p z := by
  unfold fX4_rowsFrom_d2 gR
  simp only [gL2]
theorem gL3 (K : Int32 → Int32 → Mem → Option (Int32 × Mem)) (p r : Int32) : ∀ n, fX4_rowsFrom_d3_L55 K p r n = gL fX4_rowsFrom_d4 K p r n := by
  intro n
  induction n with
  | zero => rfl
  | succ n ih =>
    funext x y z
    rw [fX4_rowsFrom_d3_L55_s, ih]
    rfl
theorem gR3 (p : Int32) (z : Mem) : fX4_rowsFrom_d3 p z = gR fX4_rowsFrom_d4 p z := by
  unfold fX4_rowsFrom_d3 gR
  simp only [gL3]
theorem gL4 (K : Int32 → Int32 → Mem → Option (Int32 × Mem)) (p r : Int32) : ∀ n, fX4_rowsFrom_d4_L55 K p r n = gL fX4_rowsFrom_d5 K p r n := by
  intro n
  induction n with
  | zero => rfl
  | succ n ih =>
    funext x y z
    rw [fX4_rowsFrom_d4_L55_s, ih]
    rfl
theorem gR4 (p : Int32) (z : Mem) : fX4_rowsFrom_d4 p z = gR fX4_rowsFrom_d5 p z := by
  unfold fX4_rowsFrom_d4 gR
  simp only [gL4]
theorem rem32 : ∀ set, set < 32 → set / 2 ^ 5 = 0 := by decide
def St5 (S : AS) (i pre : Nat) (z : Mem) : Prop := Sq (S.1 7) (S.2.1 7) z ∧ ∀ s, s < S.1 7 → z.1 18 s = nI (S.2.1 8 s - tp (S.2.1 7 s) pre i)
def Ip (S : AS) (i pre : Nat) : Prop := pre < 10 ^ i ∧ ∀ s, s < S.1 7 → tp (S.2.1 7 s) pre i ≤ S.2.1 8 s ∧ (S.2.1 7 s / 2 ^ i = 0 → tp (S.2.1 7 s) pre i = S.2.1 8 s)
def LM (Q : Nat → Prop) (i : Nat) (z y : Mem) : Prop := ∀ k, k < 5 → (k < i → y.1 19 k = z.1 19 k ∧ y.1 20 k = z.1 20 k) ∧ (i ≤ k → lowR Q k (z.1 19 k).toInt (y.1 19 k).toInt ∧ highR Q k (z.1 20 k).toInt (y.1 20 k).toInt)
def Pr5 (S : AS) (i : Nat) (R : Int32 → Mem → Option (Int32 × Mem)) : Prop := ∀ (pre : Nat) (z : Mem), Ip S i pre → St5 S i pre z → ∃ y, R (nI i) z = some (nI (cnt5 S i pre), y) ∧ (∀ s, s < S.1 7 → y.1 18 s = z.1 18 s) ∧ Out [18, 19, 20] z y ∧ LM (Qc S i pre) i z y
theorem LM.none {Q : Nat → Prop} (h : ∀ c, ¬ Q c) (i : Nat) (z : Mem) : LM Q i z z := fun k _ => ⟨fun _ => ⟨rfl, rfl⟩, fun _ => ⟨lowR.none h k _, highR.none h k _⟩⟩
theorem LM.join {Q R T : Nat → Prop} {i : Nat} {x y z : Mem} (h : LM Q i x y) (g : LM R i y z) (hT : ∀ c, T c ↔ Q c ∨ R c) : LM T i x z := fun k hk =>
  ⟨fun q => ⟨((g k hk).1 q).1.trans ((h k hk).1 q).1, ((g k hk).1 q).2.trans ((h k hk).1 q).2⟩, fun q => ⟨((h k hk).2 q).1.join ((g k hk).2 q).1 hT, ((h k hk).2 q).2.join ((g k hk).2 q).2 hT⟩⟩
theorem St5.go {S : AS} {i pre : Nat} {z y : Mem} (h : St5 S i pre z) (o : Out [18, 19, 20] z y) (e : ∀ s, s < S.1 7 → y.1 18 s = z.1 18 s) : St5 S i pre y := by
  refine ⟨⟨?_, fun s hs => ?_⟩, fun s hs => ?_⟩
  · rw [(o 6 (by decide)).1]; exact h.1.1
  · rw [(o 17 (by decide)).1]; exact h.1.2 s hs
  · rw [e s hs]; exact h.2 s hs
theorem leaf5 {S : AS} (hG : Gq S) : Pr5 S 5 fX4_rowsFrom_d5 := by
  intro pre z hI hS
  refine ⟨z, ?_, fun _ _ => rfl, Out.rf _ z, fun k hk => ⟨fun _ => ⟨rfl, rfl⟩, fun q => absurd q (by omega)⟩⟩
  have hf : fitN S (pre + 10 ^ 5 * 0) = true := by
    rw [Nat.mul_zero, Nat.add_zero, fitN_iff]
    intro s hs
    have := hG.2 s hs
    exact (hI.2 s hs).2 (rem32 _ (by omega))
  have : cnt5 S 5 pre = 1 := by
    unfold cnt5
    show 0 + (if fitN S (pre + 10 ^ 5 * 0) = true then 1 else 0) = 1
    rw [if_pos hf]
  unfold fX4_rowsFrom_d5
  rw [if_neg (show ¬ nI 5 < 0 by decide), if_neg (show ¬ nI 5 < (5 : Int32) by decide), this]
  rfl
theorem Qc_dig {S : AS} {i pre d c : Nat} (hp : pre < 10 ^ i) (hd : d < 10) : Qc S (i + 1) (pre + 10 ^ i * d) c ↔ Qc S i pre c ∧ dg c i = d := by
  have e : c % 10 ^ (i + 1) = c % 10 ^ i + 10 ^ i * dg c i := Nat.mod_pow_succ
  have hm : c % 10 ^ i < 10 ^ i := Nat.mod_lt _ (Nat.pos_of_neZero _)
  constructor
  · rintro ⟨h1, h2, h3⟩
    rw [e] at h2
    have m1 := congrArg (· % 10 ^ i) h2
    have m2 := congrArg (· / 10 ^ i) h2
    simp only [Nat.add_mul_mod_self_left, Nat.mod_eq_of_lt hm, Nat.mod_eq_of_lt hp] at m1
    simp only [Nat.add_mul_div_left _ _ (Nat.pos_of_neZero (10 ^ i)), Nat.div_eq_of_lt hm, Nat.div_eq_of_lt hp, Nat.zero_add] at m2
    exact ⟨⟨h1, m1, h3⟩, m2⟩
  · rintro ⟨⟨h1, h2, h3⟩, h4⟩
    exact ⟨h1, by rw [e, h2, h4], h3⟩
theorem tp_pre {S : AS} {i pre c set : Nat} (hp : pre < 10 ^ i) (h : Qc S i pre c) : tp set c i = tp set pre i := by
  refine tp_congr i fun k hk _ => ?_
  have e : c = pre + 10 ^ i * (c / 10 ^ i) := by rw [← h.2.1, Nat.mod_add_div]
  rw [e]
  exact dg_lo hk
/-- between what one of a fitting row has -/
theorem fit_in {S : AS} (hG : Gq S) {i pre c s : Nat} (hi : i < 5) (hp : pre < 10 ^ i) (h : Qc S i pre c) (hs : s < S.1 7) (hb : S.2.1 7 s / 2 ^ i % 2 = 1) : S.2.1 8 s - tp (S.2.1 7 s) pre i ≤ dg c i + 9 * rb (S.2.1 7 s) (i + 1) ∧ dg c i ≤ S.2.1 8 s - tp (S.2.1 7 s) pre i := by
  have h5 := fitN_iff.mp h.2.2 s hs
  have hr := tp_rest (set := S.2.1 7 s) (by have := hG.2 s hs; omega) c (5 - (i + 1)) (i + 1) (by omega)
  have hm := tp_mono (S.2.1 7 s) c (i + 1) (5 - (i + 1))
  rw [show i + 1 + (5 - (i + 1)) = 5 by omega] at hm
  have h4 : tp (S.2.1 7 s) c (i + 1) = tp (S.2.1 7 s) c i + S.2.1 7 s / 2 ^ i % 2 * dg c i := rfl
  rw [hb, Nat.one_mul, tp_pre hp h] at h4
  omega
theorem half2 (set i : Nat) : set / 2 ^ i = 2 * (set / 2 ^ (i + 1)) + set / 2 ^ i % 2 := by
  rw [Nat.pow_succ, ← Nat.div_div_eq_div_mul]
  omega
theorem tp_next {i pre d set : Nat} (hp : pre < 10 ^ i) (hd : d < 10) : tp set (pre + 10 ^ i * d) (i + 1) = tp set pre i + set / 2 ^ i % 2 * d := by
  show tp set (pre + 10 ^ i * d) i + _ = _
  rw [tp_congr (c := pre) (c' := pre + 10 ^ i * d) i (fun k hk _ => dg_lo hk), dg_hi hp (Nat.le_refl i), Nat.sub_self, show dg d 0 = d by unfold dg; omega]
theorem pre_next {i pre d : Nat} (hp : pre < 10 ^ i) (hd : d < 10) : pre + 10 ^ i * d < 10 ^ (i + 1) := by
  rw [Nat.pow_succ]
  have : 10 ^ i * (d + 1) ≤ 10 ^ i * 10 := Nat.mul_le_mul_left _ hd
  rw [Nat.mul_add, Nat.mul_one] at this
  omega
/-- a person that no search names -/
theorem free5 {S : AS} {i pre d c : Nat} (hf : ∀ s, s < S.1 7 → S.2.1 7 s / 2 ^ i % 2 = 0) (hp : pre < 10 ^ i) (hd : d < 10) : fitN S (pre + 10 ^ i * (d + 10 * c)) = fitN S (pre + 10 ^ i * (0 + 10 * c)) := by
  have key : ∀ s, s < S.1 7 → tp (S.2.1 7 s) (pre + 10 ^ i * (d + 10 * c)) 5 = tp (S.2.1 7 s) (pre + 10 ^ i * (0 + 10 * c)) 5 := by
    intro s hs
    refine tp_congr 5 fun k _ hb => ?_
    have hk : k ≠ i := fun e => hb (by rw [e]; exact hf s hs)
    by_cases q : k < i
    · rw [dg_lo q, dg_lo q]
    · obtain ⟨j, rfl⟩ : ∃ j, k = i + (j + 1) := ⟨k - i - 1, by omega⟩
      rw [dg_hi hp (by omega), dg_hi hp (by omega), show i + (j + 1) - i = j + 1 by omega, dg_ds d c j hd, dg_ds 0 c j (by decide)]
  cases h : fitN S (pre + 10 ^ i * (0 + 10 * c))
  · cases g : fitN S (pre + 10 ^ i * (d + 10 * c))
    · rfl
    · have g' := fitN_iff.mp g
      have : fitN S (pre + 10 ^ i * (0 + 10 * c)) = true := fitN_iff.mpr fun s hs => (key s hs).symm.trans (g' s hs)
      rw [h] at this
      exact absurd this (by decide)
  · have g' := fitN_iff.mp h
    exact fitN_iff.mpr fun s hs => (key s hs).trans (g' s hs)
theorem cnt5_free {S : AS} {i pre : Nat} (hi : i < 5) (hf : ∀ s, s < S.1 7 → S.2.1 7 s / 2 ^ i % 2 = 0) (hp : pre < 10 ^ i) : cnt5 S i pre = 10 * cnt5 S (i + 1) pre := by
  rw [cnt5_s S hi]
  have : ∀ d, d < 10 → cnt5 S (i + 1) (pre + 10 ^ i * d) = cnt5 S (i + 1) pre := by
    intro d hd
    unfold cnt5
    refine sm_congr fun c _ => ?_
    have e := free5 (c := c) hf hp hd
    rw [code_s, code_s, Nat.mul_zero] at e
    have e' : fitN S (pre + 10 ^ i * d + 10 ^ (i + 1) * c) = fitN S (pre + 10 ^ (i + 1) * c) := e
    rw [e']
  rw [sm_congr (g := fun _ => cnt5 S (i + 1) pre) this]
  generalize cnt5 S (i + 1) pre = x
  show 0 + x + x + x + x + x + x + x + x + x + x = 10 * x
  omega
theorem Qc_free {S : AS} {i pre c : Nat} (hi : i < 5) (hf : ∀ s, s < S.1 7 → S.2.1 7 s / 2 ^ i % 2 = 0) (hp : pre < 10 ^ i) (h : Qc S i pre c) (d : Nat) (hd : d < 10) : ∃ e, Qc S i pre e ∧ dg e i = d ∧ (∀ k, i < k → dg e k = dg c k) := by
  obtain ⟨x, x1, x2⟩ := Qc_ex (by omega) h
  have hx : x = x % 10 + 10 * (x / 10) := by omega
  have f1 : fitN S (pre + 10 ^ i * (x % 10 + 10 * (x / 10))) = true := by rw [← hx, ← x2]; exact h.2.2
  rw [free5 hf hp (by omega), ← free5 hf hp hd] at f1
  have lt : d + 10 * (x / 10) < 10 ^ (5 - i) := by
    rw [pw5 hi] at x1 ⊢
    omega
  refine ⟨_, Qc_of (by omega) hp lt f1, ?_, fun k hk => ?_⟩
  · rw [dg_hi hp (Nat.le_refl i), Nat.sub_self, dg_d0 hd]
  · obtain ⟨j, rfl⟩ : ∃ j, k = i + (j + 1) := ⟨k - i - 1, by omega⟩
    rw [x2, dg_hi hp (by omega), dg_hi hp (by omega), show i + (j + 1) - i = j + 1 by omega, dg_ds d _ j hd]
    conv => rhs; rw [hx]
    rw [dg_ds _ _ j (by omega)]
theorem note_LM {S : AS} {i pre d : Nat} {z1 z2 z3 : Mem} (hi : i < 5) (hp : pre < 10 ^ i) (hd : d < 10) (g : LM (Qc S (i + 1) (pre + 10 ^ i * d)) (i + 1) z1 z2) (n2 : ∀ k, k ≠ i → z3.1 19 k = z2.1 19 k ∧ z3.1 20 k = z2.1 20 k) (n3 : cnt5 S (i + 1) (pre + 10 ^ i * d) = 0 → z3.1 19 i = z2.1 19 i ∧ z3.1 20 i = z2.1 20 i) (n4 : cnt5 S (i + 1) (pre + 10 ^ i * d) ≠ 0 → (z3.1 19 i).toInt = min (z2.1 19 i).toInt d ∧ (z3.1 20 i).toInt = max (z2.1 20 i).toInt d) : LM (Qc S (i + 1) (pre + 10 ^ i * d)) i z1 z3 := by
  intro k hk
  have gk := g k hk
  have hp' := pre_next hp hd
  refine ⟨fun q => ?_, fun q => ?_⟩
  · rw [(n2 k (by omega)).1, (n2 k (by omega)).2]
    exact gk.1 (by omega)
  · by_cases e : k = i
    · subst e
      have u := gk.1 (by omega)
      by_cases c0 : cnt5 S (k + 1) (pre + 10 ^ k * d) = 0
      · have nq : ∀ c, ¬ Qc S (k + 1) (pre + 10 ^ k * d) c := fun c hc => (cnt5_pos (S := S) (i := k + 1) (by omega) hp').mpr ⟨c, hc⟩ c0
        rw [(n3 c0).1, (n3 c0).2, u.1, u.2]
        exact ⟨lowR.none nq k _, highR.none nq k _⟩
      · obtain ⟨c, hc⟩ := (cnt5_pos (S := S) (i := k + 1) (by omega) hp').mp c0
        have dd : ∀ c, Qc S (k + 1) (pre + 10 ^ k * d) c → dg c k = d := fun c hc => ((Qc_dig hp hd).mp hc).2
        rw [(n4 c0).1, (n4 c0).2, u.1, u.2]
        refine ⟨⟨by omega, ?_, fun x hx => by rw [dd x hx]; omega⟩, ⟨by omega, ?_, fun x hx => by rw [dd x hx]; omega⟩⟩
        · by_cases w : (z1.1 19 k).toInt ≤ d
          · exact Or.inl (by omega)
          · exact Or.inr ⟨c, hc, by rw [dd c hc]; omega⟩
        · by_cases w : (d : Int) ≤ (z1.1 20 k).toInt
          · exact Or.inl (by omega)
          · exact Or.inr ⟨c, hc, by rw [dd c hc]; omega⟩
    · rw [(n2 k e).1, (n2 k e).2]
      exact gk.2 (by omega)
