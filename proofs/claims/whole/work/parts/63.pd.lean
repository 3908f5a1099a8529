/-! ===== sure ===== -/
def latN (b : Nat) (c : Nat → Nat) (p d t : Nat) : Nat := max 1 (c (5 * p) - (c (5 * p + 3) + (5 * t + 2 * b * d))) + (8 * c (5 * p + 1) + 10 * c (5 * p + 2))
theorem k5 (b : Nat) : (5 : Int32) * nI b = nI (5 * b) := mlt 5 b rfl
theorem k10 (b : Nat) : (10 : Int32) * nI b = nI (10 * b) := mlt 10 b rfl
theorem k9 (b : Nat) : (9 : Int32) * nI b = nI (9 * b) := mlt 9 b rfl
theorem behind8 {m b p t d : Nat} {c : Nat → Nat} {z : Mem} (hm : m ≤ 5) (hp : p < m) (hb : b ≤ 9) (ht : t ≤ 45) (hd : d ≤ 5) (hz : z.1 2 2 = nI b) (hh : holds (z.1 11) m c) (h1 : c (5 * p) < 2 ^ 20) (h2 : c (5 * p + 3) ≤ 90) : fX2_noonWeightBehind (nI p) (nI t) (nI d) z = some (nI (latN b c p d t), z) := by
  have hbd : 2 * b * d ≤ 90 := by have : b * d ≤ 9 * 5 := Nat.mul_le_mul hb hd; rw [Nat.mul_assoc]; omega
  unfold fX2_noonWeightBehind fX2_pocketWeight_2
  rw [show fX2_get_2 (nI p) (0 : Int32) z = _ from get2 (c := 0) (by omega) z, cls, show fX2_get_2 (nI p) (3 : Int32) z = _ from get2 (c := 3) (by omega) z, cls, lts, lts, show fX2_get_2 (nI p) (1 : Int32) z = _ from get2 (c := 1) (by omega) z, cls, show fX2_get_2 (nI p) (2 : Int32) z = _ from get2 (c := 2) (by omega) z, cls, cls, hz, hh.at (k := 0) hp (by decide), hh.at (k := 1) hp (by decide), hh.at (k := 2) hp (by decide), hh.at (k := 3) hp (by decide), k5, k2, pk_mul, sss, nI_add, sss, nI_add, k8, k10, nI_add]
  show some (mx _ + _, z) = _
  rw [Nat.add_zero, mx_sub (by omega) (by omega), nI_add]
  rfl
theorem later9 {m b p t d : Nat} {c : Nat → Nat} {z : Mem} (hm : m ≤ 5) (hp : p < m) (hb : b ≤ 9) (ht : t ≤ 45) (hd : d ≤ 5) (hz : z.1 25 8 = nI b) (hh : holds (z.1 27) m c) (h1 : c (5 * p) < 2 ^ 20) (h2 : c (5 * p + 3) ≤ 90) : fX9_later (nI p) (nI d) (nI t) z = some (nI (latN b c p d t), z) := by
  have hbd : 2 * b * d ≤ 90 := by have : b * d ≤ 9 * 5 := Nat.mul_le_mul hb hd; rw [Nat.mul_assoc]; omega
  unfold fX9_later
  rw [lts, c53, c50, rd (by omega), lts, lts, rd (by omega), lts, clamp (by omega), clamp (by omega), hz, hh.at0 hp, hh.at (k := 3) hp (by decide), k5, k2, pk_mul, sss, nI_add, sss, nI_add, left9, cls, noonM hm hp hh, cls, lts, rd (by omega), lts, clamp (by omega), hh.at0 hp, mx_sub (by omega) (by omega), nI_add, pk_sub (by unfold nw; omega)]
  unfold latN nw
  congr 3
  omega
def allB (Q : Nat → Bool) : Nat → Bool
  | 0 => true
  | i + 1 => allB Q i && Q i
theorem allB_iff (Q : Nat → Bool) (i : Nat) : allB Q i = true ↔ ∀ o, o < i → Q o = true := by
  induction i with
  | zero => exact ⟨fun _ o h => absurd h (by omega), fun _ => rfl⟩
  | succ i ih =>
    unfold allB
    rw [Bool.and_eq_true, ih]
    constructor
    · intro ⟨a, b⟩ o ho
      by_cases e : o = i
      · rw [e]; exact b
      · exact a o (by omega)
    · intro h
      exact ⟨fun o ho => h o (by omega), h i (by omega)⟩
/-- o is beaten -/
def beats (b : Nat) (c : Nat → Nat) (p d x t o : Nat) : Bool := decide (o = p) || decide (latN b c p d t < latN b c o d (x * d) ∨ (latN b c p d t = latN b c o d (x * d) ∧ p < o))
def winB (m b : Nat) (c : Nat → Nat) (p d x t : Nat) : Bool := allB (beats b c p d x t) m
/-- what a state gives for these -/
def okW (m b : Nat) (c : Nat → Nat) : Prop := m ≤ 5 ∧ b ≤ 9 ∧ ∀ p, p < m → c (5 * p) < 2 ^ 17 ∧ c (5 * p + 1) ≤ 9 ∧ c (5 * p + 2) ≤ 9 ∧ c (5 * p + 3) ≤ 90
theorem lat_lt {m b : Nat} {c : Nat → Nat} (h : okW m b c) {p : Nat} (hp : p < m) (d t : Nat) : latN b c p d t < 2 ^ 20 := by
  have := h.2.2 p hp
  unfold latN
  omega
theorem wins8 {m b p d x t : Nat} {c : Nat → Nat} {z : Mem} (hk : okW m b c) (hp : p < m) (hd : d ≤ 5) (hx : x ≤ 9) (ht : t ≤ 45) (h1 : z.1 2 1 = nI m) (hz : z.1 2 2 = nI b) (hh : holds (z.1 11) m c) : fX2_winsWith (nI p) (nI t) (nI d) (nI x) z = some (if winB m b c p d x t = true then 1 else 0, z) := by
  have hxd : x * d ≤ 45 := Nat.mul_le_mul hx hd
  have main : ∀ (e i n : Nat), i + e = m → e < n → allB (beats b c p d x t) i = true → fX2_winsWith_L12 (fun (_ : Int32) (z_5 : Mem) => some ((1 : Int32), z_5)) (nI p) (nI d) (nI x) (nI (latN b c p d t)) n (nI i) z = some (if winB m b c p d x t = true then 1 else 0, z) := by
    intro e
    induction e with
    | zero =>
      intro i n h3 h4 ha
      obtain ⟨n, rfl⟩ : ∃ k, n = k + 1 := ⟨n - 1, by omega⟩
      have : i = m := by omega
      subst this
      rw [fX2_winsWith_L12_s, h1, if_pos (nI_le (Nat.le_refl i) (by have := hk.1; omega)), if_pos (show winB i b c p d x t = true from ha)]
    | succ e ih =>
      intro i n h3 h4 ha
      obtain ⟨n, rfl⟩ : ∃ k, n = k + 1 := ⟨n - 1, by omega⟩
      have hm := hk.1
      have hi : i < m := by omega
      have e1 : nI i + (1 : Int32) = nI (i + 1) := nI_1 i
      have l1 := lat_lt hk hp d t
      have l2 := lat_lt hk hi d (x * d)
      have hki := hk.2.2 i hi
      have go : beats b c p d x t i = true → allB (beats b c p d x t) (i + 1) = true := fun h => by show (_ && _) = true; rw [ha, h]; rfl
      have no : beats b c p d x t i = false → ¬ winB m b c p d x t = true := fun h q => by
        have := (allB_iff _ _).mp q i hi
        rw [h] at this
        cases this
      rw [fX2_winsWith_L12_s, h1, if_neg (nI_ge hi (by omega)), pk_mul, behind8 hk.1 hi hk.2.1 hxd hd hz hh (by omega) (by omega), cls]
      by_cases e2 : i = p
      · rw [if_pos (by rw [e2]), lts, e1, ih (i + 1) n (by omega) (by omega) (go (by unfold beats; simp [e2]))]
      · rw [if_neg (fun q => e2 ((nI_eq (by omega) (by omega)).mp q))]
        by_cases q1 : latN b c i d (x * d) < latN b c p d t
        · rw [if_pos (nI_lt q1 (by omega)), if_neg (no (by unfold beats; simp [e2]; omega))]
        · rw [if_neg (nI_nlt (by omega) (by omega))]
          by_cases q2 : latN b c i d (x * d) = latN b c p d t
          · rw [if_pos (by rw [q2])]
            by_cases q3 : p ≤ i
            · rw [if_pos (nI_le q3 (by omega)), lts, e1, ih (i + 1) n (by omega) (by omega) (go (by unfold beats; simp [e2]; omega))]
            · rw [if_neg (nI_ge (by omega) (by omega)), if_neg (no (by unfold beats; simp [e2]; omega))]
          · rw [if_neg (fun q => q2 ((nI_eq (by omega) (by omega)).mp q)), lts, e1, ih (i + 1) n (by omega) (by omega) (go (by unfold beats; simp [e2]; omega))]
  have hkp := hk.2.2 p hp
  unfold fX2_winsWith
  rw [behind8 hk.1 hp hk.2.1 ht hd hz hh (by omega) (by omega), cls]
  exact main m 0 FU (by omega) (by have := hk.1; unfold FU; omega) rfl
theorem wins9 {m b p d x t : Nat} {c : Nat → Nat} {z : Mem} (hk : okW m b c) (hp : p < m) (hd : d ≤ 5) (hx : x ≤ 9) (ht : t ≤ 45) (h1 : z.1 25 6 = nI m) (hz : z.1 25 8 = nI b) (hh : holds (z.1 27) m c) (K : Int32 → Int32 → Mem → Option (Int32 × Mem)) :
    ∀ (e i n : Nat), i + e = m → e < n → fX9_least_L18 K (nI p) (nI d) (nI x) (nI t) n (if allB (beats b c p d x t) i = true then 1 else 0) (nI i) z = K (if winB m b c p d x t = true then 1 else 0) (nI m) z := by
  have hxd : x * d ≤ 45 := Nat.mul_le_mul hx hd
  intro e
  induction e with
  | zero =>
    intro i n h3 h4
    obtain ⟨n, rfl⟩ : ∃ k, n = k + 1 := ⟨n - 1, by omega⟩
    have : i = m := by omega
    subst this
    rw [fX9_least_L18_s, h1, if_pos (nI_le (Nat.le_refl i) (by have := hk.1; omega))]
    rfl
  | succ e ih =>
    intro i n h3 h4
    obtain ⟨n, rfl⟩ : ∃ k, n = k + 1 := ⟨n - 1, by omega⟩
    have hm := hk.1
    have hi : i < m := by omega
    have e1 : nI i + (1 : Int32) = nI (i + 1) := nI_1 i
    have l1 := lat_lt hk hp d t
    have l2 := lat_lt hk hi d (x * d)
    have hki := hk.2.2 i hi
    have hkp := hk.2.2 p hp
    have A : allB (beats b c p d x t) (i + 1) = (allB (beats b c p d x t) i && beats b c p d x t i) := rfl
    rw [← ih (i + 1) n (by omega) (by omega), fX9_least_L18_s, h1, if_neg (nI_ge hi (by omega)), A]
    by_cases ha : allB (beats b c p d x t) i = true
    · rw [if_pos ha, if_neg one0, ha, Bool.true_and]
      by_cases e2 : i = p
      · rw [if_pos (by rw [e2]), lts, e1, if_pos (show beats b c p d x t i = true by unfold beats; simp [e2])]
      · rw [if_neg (fun q => e2 ((nI_eq (by omega) (by omega)).mp q)), later9 hk.1 hp hk.2.1 ht hd hz hh (by omega) (by omega), cls, pk_mul, later9 hk.1 hi hk.2.1 hxd hd hz hh (by omega) (by omega), cls, lighter9 l1 l2 (by omega) (by omega), cls]
        by_cases q : latN b c p d t < latN b c i d (x * d) ∨ (latN b c p d t = latN b c i d (x * d) ∧ p < i)
        · rw [if_pos q, if_neg one0, lts, e1, if_pos (show beats b c p d x t i = true by unfold beats; simp [q])]
        · rw [if_neg q, if_pos rfl, lts, e1, if_neg (show ¬ beats b c p d x t i = true by unfold beats; simp [q, e2])]
    · have ha' : allB (beats b c p d x t) i = false := by simpa using ha
      rw [ha', if_neg (show ¬ false = true by decide), if_pos rfl, lts, e1, Bool.false_and, if_neg (show ¬ false = true by decide)]
/-- the least sum of toil that wins -/
def lst (m b : Nat) (c : Nat → Nat) (p d x : Nat) : Option Nat := fnd (winB m b c p d x) (9 * d + 1) 0
theorem lst_le {m b : Nat} {c : Nat → Nat} {p d x t : Nat} (h : lst m b c p d x = some t) : t ≤ 9 * d := by
  have := fnd_some _ _ _ _ h
  omega
theorem least8 {m b p d x : Nat} {c : Nat → Nat} {z : Mem} (hk : okW m b c) (hp : p < m) (hd : d ≤ 5) (hx : x ≤ 9) (h1 : z.1 2 1 = nI m) (hz : z.1 2 2 = nI b) (hh : holds (z.1 11) m c) : fX8_leastSureToil (nI p) (nI d) (nI x) z = some (enc (lst m b c p d x), z) := by
  have main : ∀ (e i n : Nat), i + e = 9 * d + 1 → e < n → fX8_leastSureToil_L3 (fun (_ : Int32) (z_2 : Mem) => some ((-9 : Int32), z_2)) (nI p) (nI d) (nI x) n (nI i) z = some (enc (fnd (winB m b c p d x) e i), z) := by
    intro e
    induction e with
    | zero =>
      intro i n h3 h4
      obtain ⟨n, rfl⟩ : ∃ k, n = k + 1 := ⟨n - 1, by omega⟩
      rw [fX8_leastSureToil_L3_s, k9, if_pos (nI_lt (by omega) (by omega))]
      rfl
    | succ e ih =>
      intro i n h3 h4
      obtain ⟨n, rfl⟩ : ∃ k, n = k + 1 := ⟨n - 1, by omega⟩
      rw [fX8_leastSureToil_L3_s, k9, if_neg (nI_nlt (by omega) (by omega)), wins8 hk hp hd hx (by omega) h1 hz hh, cls]
      unfold fnd
      by_cases q : winB m b c p d x i = true
      · rw [if_pos q, if_neg one0, if_pos q]
        rfl
      · rw [if_neg q, if_pos rfl, if_neg q, lts, show nI i + (1 : Int32) = nI (i + 1) from nI_1 i, ih (i + 1) n (by omega) (by omega)]
  unfold fX8_leastSureToil lst
  exact main (9 * d + 1) 0 FU (by omega) (by unfold FU; omega)
theorem least9 {m b p d x : Nat} {c : Nat → Nat} {z : Mem} (hk : okW m b c) (hp : p < m) (hd : d ≤ 5) (hx : x ≤ 9) (h1 : z.1 25 6 = nI m) (hz : z.1 25 8 = nI b) (hh : holds (z.1 27) m c) : fX9_least (nI p) (nI d) (nI x) z = some (enc (lst m b c p d x), z) := by
  have main : ∀ (e i n : Nat), i + e = 9 * d + 1 → e < n → fX9_least_L3 (fun (_ : Int32) (z_2 : Mem) => some ((-9 : Int32), z_2)) (nI p) (nI d) (nI x) n (nI i) z = some (enc (fnd (winB m b c p d x) e i), z) := by
    intro e
    induction e with
    | zero =>
      intro i n h3 h4
      obtain ⟨n, rfl⟩ : ∃ k, n = k + 1 := ⟨n - 1, by omega⟩
      rw [fX9_least_L3_s, k9, if_pos (nI_lt (by omega) (by omega))]
      rfl
    | succ e ih =>
      intro i n h3 h4
      obtain ⟨n, rfl⟩ : ∃ k, n = k + 1 := ⟨n - 1, by omega⟩
      have A := fun K => wins9 (t := i) hk hp hd hx (by omega) h1 hz hh K m 0 FU (by omega) (by have := hk.1; unfold FU; omega)
      have A' : ∀ K, fX9_least_L18 K (nI p) (nI d) (nI x) (nI i) FU (1 : Int32) (0 : Int32) z = _ := A
      rw [fX9_least_L3_s, k9, if_neg (nI_nlt (by omega) (by omega)), A']
      unfold fnd
      by_cases q : winB m b c p d x i = true
      · rw [if_pos q, if_neg one0, if_pos q]
        rfl
      · rw [if_neg q, if_pos rfl, if_neg q, lts, show nI i + (1 : Int32) = nI (i + 1) from nI_1 i, ih (i + 1) n (by omega) (by omega)]
  unfold fX9_least lst
  exact main (9 * d + 1) 0 FU (by omega) (by unfold FU; omega)
theorem toilDay {t d i : Nat} (ht : t ≤ 45) (h1 : 1 ≤ d) (hd : d ≤ 5) (hi : i < d) (z : Mem) : fX8_toilOnDay (nI t) (nI d) (nI i) z = some (nI ((t + i) / d), z) := by
  unfold fX8_toilOnDay
  rw [if_pos (show (1 : Int32) ≤ nI d from nI_le (a := 1) h1 (by omega)), nzs (nI_ne0 h1 (by omega)), nI_add, pk_div (by omega) h1 (by omega)]
theorem share_eq : ∀ d, d < 6 → 1 ≤ d → ∀ t, t < 46 → ∀ i, i < 5 → i < d → t / d + (if i < d - t % d then 0 else 1) = (t + i) / d := by decide +kernel
theorem share9 {t d i : Nat} (ht : t ≤ 45) (h1 : 1 ≤ d) (hd : d ≤ 5) (hi : i < d) (z : Mem) : fX9_share (nI t) (nI d) (nI i) z = some (nI ((t + i) / d), z) := by
  unfold fX9_share
  have hmod := Nat.mod_lt t (show d > 0 by omega)
  rw [nzs (nI_ne0 h1 (by omega)), nzs (nI_ne0 h1 (by omega)), pk_rem (by omega) h1 (by omega), pk_sub (by omega), pk_div (by omega) h1 (by omega), ← share_eq d (by omega) h1 t (by omega) i (by omega) hi]
  have hdiv : t / d ≤ 45 := Nat.le_trans (Nat.div_le_self t d) ht
  by_cases q : i < d - t % d
  · rw [if_pos (nI_lt q (by omega)), if_pos q, add0, Nat.add_zero]
  · rw [if_neg (nI_nlt (by omega) (by omega)), if_neg q, show nI (t / d) + (1 : Int32) = _ from nI_1 _]
def harm (t d : Nat) : Nat → Nat
  | 0 => 0
  | i + 1 => harm t d i + (t + i) / d * ((t + i) / d)
theorem refuS {m : Nat} (hm : m ≤ 5) {z : Mem} (h : z.1 2 1 = nI m) (p d x : Int32) : fX8_refusalOfSure p d x z = some (if isp p m then (if 1 ≤ d.toInt ∧ d.toInt ≤ 5 then (if 0 ≤ x.toInt ∧ x.toInt ≤ 9 then (if m = 1 then -3 else 0) else -2) else -2) else -1, z) := by
  unfold fX8_refusalOfSure fX2_size_2
  rw [hasP hm h, cls]
  by_cases q : isp p m
  · rw [if_pos q, if_neg one0, if_pos q]
    have a1 : d < (1 : Int32) ↔ d.toInt < 1 := lt32
    have a2 : (5 : Int32) < d ↔ 5 < d.toInt := lt32
    have a3 : x < 0 ↔ x.toInt < 0 := lt32
    have a4 : x ≤ (9 : Int32) ↔ x.toInt ≤ 9 := le32
    by_cases h1 : d < (1 : Int32)
    · have := a1.mp h1
      rw [if_pos h1, if_neg (by omega)]
    have b1 : ¬ d.toInt < 1 := fun t => h1 (a1.mpr t)
    rw [if_neg h1]
    by_cases h2 : (5 : Int32) < d
    · have := a2.mp h2
      rw [if_pos h2, if_neg (by omega)]
    have b2 : ¬ 5 < d.toInt := fun t => h2 (a2.mpr t)
    rw [if_neg h2, if_pos (show 1 ≤ d.toInt ∧ d.toInt ≤ 5 by omega)]
    by_cases h3 : x < 0
    · have := a3.mp h3
      rw [if_pos h3, if_neg (by omega)]
    have b3 : ¬ x.toInt < 0 := fun t => h3 (a3.mpr t)
    rw [if_neg h3]
    by_cases h4 : x ≤ (9 : Int32)
    · have := a4.mp h4
      rw [if_pos h4, cls, h, if_pos (show 0 ≤ x.toInt ∧ x.toInt ≤ 9 by omega)]
      by_cases h5 : m = 1
      · rw [if_pos (show nI m = (1 : Int32) by rw [h5]; rfl), if_pos h5]
      · rw [if_neg (show ¬ nI m = (1 : Int32) from fun q => h5 ((nI_eq (by omega) (by decide)).mp q)), if_neg h5]
    · have b4 : ¬ x.toInt ≤ 9 := fun t => h4 (a4.mpr t)
      rw [if_neg h4, if_neg (by omega)]
  · rw [if_neg q, if_pos rfl, if_neg q]
theorem G.okW {k : Nat} {S : AS} (hG : G k S) (hk : k < 512) : okW (S.1 1) (S.1 2) (S.2.1 1) := by
  obtain ⟨hm, hb, hil, hlw, hcb⟩ := hG.2.1
  exact ⟨hm, hb, fun p hp => by have := hcb.1 p hp; omega⟩
theorem neg3n : ¬ (-3 : Int32) = 0 := by decide
theorem ok_sure (p d x : Int32) : Ok (fX8_sure p d x) (fX9_sure p d x) := by
  refine ok_read fun k S z y hk hG hC hR => ?_
  have hw := hG.okW hk
  have hm := hw.1
  obtain ⟨c1, c2, c3, c4, c5'⟩ := hC.2.1
  obtain ⟨r1, r2, r3, r4, r5⟩ := hR.2.1
  unfold fX8_sure fX9_sure
  rw [refuS hm c1, cls, isP hm r1, cls]
  by_cases q1 : isp p (S.1 1)
  · rw [if_pos q1, if_pos q1, if_neg one0, in9i d 1 5 rfl rfl, cls]
    by_cases q2 : 1 ≤ d.toInt ∧ d.toInt ≤ 5
    · rw [if_pos q2, if_pos q2, if_neg one0, in9i x 0 9 rfl rfl, cls]
      by_cases q3 : 0 ≤ x.toInt ∧ x.toInt ≤ 9
      · rw [if_pos q3, if_pos q3, if_neg one0, r1]
        by_cases q4 : S.1 1 = 1
        · rw [if_pos q4, if_neg neg3n, if_pos (show nI (S.1 1) = (1 : Int32) by rw [q4]; rfl)]
          exact ⟨_, rfl, rfl⟩
        · obtain ⟨a, ha, rfl⟩ := isp_of q1
          obtain ⟨e, he1, he2, rfl⟩ := rng_of (lo := 1) (hi := 5) q2
          obtain ⟨f, -, hf2, rfl⟩ := rng_of (lo := 0) (hi := 9) q3
          rw [if_neg q4, if_pos rfl, if_neg (show ¬ nI (S.1 1) = (1 : Int32) from fun q => q4 ((nI_eq (by omega) (by decide)).mp q)), least8 hw ha he2 hf2 c1 c2 c5', cls, least9 hw ha he2 hf2 r1 r2 r5, cls]
          cases hl : lst (S.1 1) (S.1 2) (S.2.1 1) a e f with
          | none =>
            rw [if_pos (show enc none = (-9 : Int32) from rfl), show FU = (FU - 1) + 1 from rfl, fX9_sure_L63_s, if_neg (show ¬ nI e ≤ (0 : Int32) from nI_nle he1 (by omega)), if_pos (show enc none = (-9 : Int32) from rfl)]
            exact ⟨-9, rfl, rfl⟩
          | some t =>
            have ht := lst_le hl
            have hne : ¬ enc (some t) = (-9 : Int32) := enc_ne (by omega)
            rw [if_neg hne]
            refine ⟨nI (harm t e e), ?_, ?_⟩
            · have main : ∀ (g i n : Nat), i + g = e → g < n → fX8_sure_L42 (fun (x6_11 : Int32) (_ : Int32) (z_10 : Mem) => some (x6_11, z_10)) (nI e) (nI t) n (nI (harm t e i)) (nI i) z = some (nI (harm t e e), z) := by
                intro g
                induction g with
                | zero =>
                  intro i n h1 h2
                  obtain ⟨n, rfl⟩ : ∃ k, n = k + 1 := ⟨n - 1, by omega⟩
                  have : i = e := by omega
                  subst this
                  rw [fX8_sure_L42_s, if_pos (nI_le (Nat.le_refl i) (by omega))]
                | succ g ih =>
                  intro i n h1 h2
                  obtain ⟨n, rfl⟩ : ∃ k, n = k + 1 := ⟨n - 1, by omega⟩
                  rw [← ih (i + 1) n (by omega) (by omega), fX8_sure_L42_s, if_neg (nI_ge (by omega) (by omega)), toilDay (by omega) he1 he2 (by omega), cls, toilDay (by omega) he1 he2 (by omega), cls, lts, pk_mul, nI_add, lts, show nI i + (1 : Int32) = nI (i + 1) from nI_1 i]
                  rfl
              exact main e 0 FU (by omega) (by unfold FU; omega)
            · have main : ∀ (g i n : Nat), i + g = e → g < n → fX9_sure_L63 (fun (x5_19 : Int32) (_ : Int32) (z_18 : Mem) => (if enc (some t) = (-9 : Int32) then some ((-9 : Int32), z_18) else some (x5_19, z_18))) (nI e) (enc (some t)) n (nI (harm t e i)) (nI i) y = some (nI (harm t e e), y) := by
                intro g
                induction g with
                | zero =>
                  intro i n h1 h2
                  obtain ⟨n, rfl⟩ : ∃ k, n = k + 1 := ⟨n - 1, by omega⟩
                  have : i = e := by omega
                  subst this
                  rw [fX9_sure_L63_s, if_pos (nI_le (Nat.le_refl i) (by omega)), if_neg hne]
                | succ g ih =>
                  intro i n h1 h2
                  obtain ⟨n, rfl⟩ : ∃ k, n = k + 1 := ⟨n - 1, by omega⟩
                  rw [← ih (i + 1) n (by omega) (by omega), fX9_sure_L63_s, if_neg (nI_ge (by omega) (by omega)), if_neg hne, show fX9_share (enc (some t)) (nI e) (nI i) y = _ from share9 (by omega) he1 he2 (by omega) y, cls, show fX9_share (enc (some t)) (nI e) (nI i) y = _ from share9 (by omega) he1 he2 (by omega) y, cls, lts, pk_mul, nI_add, lts, show nI i + (1 : Int32) = nI (i + 1) from nI_1 i]
                  rfl
              exact main e 0 FU (by omega) (by unfold FU; omega)
      · rw [if_neg q3, if_neg neg2n, if_neg q3, if_pos rfl]
        exact ⟨_, rfl, rfl⟩
    · rw [if_neg q2, if_neg neg2n, if_neg q2, if_pos rfl]
      exact ⟨_, rfl, rfl⟩
  · rw [if_neg q1, if_neg neg1n, if_neg q1, if_pos rfl]
    exact ⟨_, rfl, rfl⟩
theorem ok_sureAt (p d x i : Int32) : Ok (fX8_sureAt p d x i) (fX9_sureAt p d x i) := by
  refine ok_read fun k S z y hk hG hC hR => ?_
  have hw := hG.okW hk
  have hm := hw.1
  obtain ⟨c1, c2, c3, c4, c5'⟩ := hC.2.1
  obtain ⟨r1, r2, r3, r4, r5⟩ := hR.2.1
  unfold fX8_sureAt fX9_sureAt
  rw [refuS hm c1, cls, isP hm r1, cls]
  by_cases q1 : isp p (S.1 1)
  · rw [if_pos q1, if_pos q1, if_neg one0, in9i d 1 5 rfl rfl, cls]
    by_cases q2 : 1 ≤ d.toInt ∧ d.toInt ≤ 5
    · rw [if_pos q2, if_pos q2, if_neg one0, in9i x 0 9 rfl rfl, cls]
      by_cases q3 : 0 ≤ x.toInt ∧ x.toInt ≤ 9
      · rw [if_pos q3, if_pos q3, if_neg one0, r1]
        by_cases q4 : S.1 1 = 1
        · rw [if_pos q4, if_neg neg3n, if_pos (show nI (S.1 1) = (1 : Int32) by rw [q4]; rfl)]
          exact ⟨_, rfl, rfl⟩
        · obtain ⟨a, ha, rfl⟩ := isp_of q1
          obtain ⟨e, he1, he2, rfl⟩ := rng_of (lo := 1) (hi := 5) q2
          obtain ⟨f, -, hf2, rfl⟩ := rng_of (lo := 0) (hi := 9) q3
          rw [if_neg q4, if_pos rfl, if_neg (show ¬ nI (S.1 1) = (1 : Int32) from fun q => q4 ((nI_eq (by omega) (by decide)).mp q)), least8 hw ha he2 hf2 c1 c2 c5', cls, least9 hw ha he2 hf2 r1 r2 r5, cls]
          cases hl : lst (S.1 1) (S.1 2) (S.2.1 1) a e f with
          | none =>
            rw [if_pos (show enc none = (-9 : Int32) from rfl), if_pos (show enc none = (-9 : Int32) from rfl)]
            exact ⟨-9, rfl, rfl⟩
          | some t =>
            have ht := lst_le hl
            have hne : ¬ enc (some t) = (-9 : Int32) := enc_ne (by omega)
            rw [if_neg hne, if_neg hne, in9i i 0 ((e : Int) - 1) rfl (by rw [Int32.toInt_toInt64]; exact pk_sub_toInt (a := e) (b := 1) (by omega) (by decide)), cls]
            have a1 : i < 0 ↔ i.toInt < 0 := lt32
            have a2 : i < nI e ↔ i.toInt < (e : Int) := by rw [lt32, nI_toInt (by omega)]
            by_cases q5 : 0 ≤ i.toInt ∧ i.toInt ≤ (e : Int) - 1
            · have b1 : ¬ i < 0 := fun q => by have := a1.mp q; omega
              have b2 : i < nI e := a2.mpr (by omega)
              obtain ⟨j, hj, rfl⟩ := of_nn b1
              rw [nI_toInt hj] at q5
              rw [if_neg b1, if_pos b2, if_pos (show 0 ≤ (nI j).toInt ∧ (nI j).toInt ≤ (e : Int) - 1 by rw [nI_toInt hj]; exact q5), if_neg one0, show fX8_toilOnDay (enc (some t)) (nI e) (nI j) z = _ from toilDay (by omega) he1 he2 (by omega) z, cls, show fX9_share (enc (some t)) (nI e) (nI j) y = _ from share9 (by omega) he1 he2 (by omega) y, cls]
              exact ⟨_, rfl, rfl⟩
            · rw [if_neg q5, if_pos rfl]
              refine ⟨-9, ?_, rfl⟩
              by_cases b1 : i < 0
              · rw [if_pos b1]
              · have b1' : ¬ i.toInt < 0 := fun q => b1 (a1.mpr q)
                rw [if_neg b1, if_neg (fun q => by have := a2.mp q; omega)]
      · rw [if_neg q3, if_neg neg2n, if_neg q3, if_pos rfl]
        exact ⟨_, rfl, rfl⟩
    · rw [if_neg q2, if_neg neg2n, if_neg q2, if_pos rfl]
      exact ⟨_, rfl, rfl⟩
  · rw [if_neg q1, if_neg neg1n, if_neg q1, if_pos rfl]
    exact ⟨_, rfl, rfl⟩
