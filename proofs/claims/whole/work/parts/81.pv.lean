/-! ===== the line: the class ===== -/
def O23 (z y : Mem) : Prop := y.1 = z.1 ∧ ∀ q, q ≠ 23 → y.2 q = z.2 q
theorem O23.rf (z : Mem) : O23 z z := ⟨rfl, fun _ _ => rfl⟩
theorem O23.tr {a b c : Mem} (h : O23 a b) (g : O23 b c) : O23 a c := ⟨g.1.trans h.1, fun q hq => (g.2 q hq).trans (h.2 q hq)⟩
theorem O23.sL (z : Mem) (k : Nat) (v : Int64) : O23 z (sL z 23 k v) := ⟨rfl, fun q hq => by rw [sL2, if_neg hq]⟩
def Ar (q : Nat) (z : Mem) (V : Nat → Nat) : Prop := ∀ j, j < 2197 → z.2 q j = lN (V j)
theorem Ar.put {q : Nat} {z : Mem} {V : Nat → Nat} (h : Ar q z V) (x v : Nat) : Ar q (sL z q x (lN v)) (fun j => if j = x then v else V j) := by
  intro j hj
  show (sL z q x (lN v)).2 q j = lN (if j = x then v else V j)
  rw [sL2, if_pos rfl, upL1]
  by_cases e : j = x
  · rw [if_pos e, if_pos e]
  · rw [if_neg e, if_neg e]; exact h j hj
theorem Ar.eq {q : Nat} {z : Mem} {V W : Nat → Nat} (h : Ar q z V) (e : ∀ j, j < 2197 → V j = W j) : Ar q z W := fun j hj => by rw [h j hj, e j hj]
theorem cmp0 {v : Nat} (h : v < 2 ^ 63) : lg_cmp (lN v) (0 : Int64) = 0 ↔ v = 0 := by
  rw [lg_cmp_eq]
  exact pk_lEQ (b := 0) h (by decide)
theorem eat36 {s x Y : Nat} (hs : 1 ≤ s) (hs2 : s ≤ 169) (hx : x < 2197) (hY : Y ≤ 3) (hYs : s * Y ≤ x) (K : Int32 → Mem → Option (Unit × Mem)) : ∀ (d q n : Nat) (z : Mem) (V : Nat → Nat), q + d = Y + 1 → 1 ≤ q → d < n → Ar 23 z V → ∃ y, fX3_letEat_L36 K (nI s) (nI x) (nI Y) n (nI q) z = K (nI (Y + 1)) y ∧ O23 z y ∧ Ar 23 y (fun j => if j = x then V x + sm d (fun j => V (x - s * (q + j))) else V j) := by
  intro d
  induction d with
  | zero =>
    intro q n z V h1 h2 h3 h4
    obtain ⟨n, rfl⟩ : ∃ k, n = k + 1 := ⟨n - 1, by omega⟩
    obtain rfl : q = Y + 1 := by omega
    refine ⟨z, by rw [fX3_letEat_L36_s, if_pos (nI_lt (by omega) (by omega))], O23.rf z, h4.eq fun j hj => ?_⟩
    by_cases e : j = x
    · rw [if_pos e, e]; rfl
    · rw [if_neg e]
  | succ d ih =>
    intro q n z V h1 h2 h3 h4
    obtain ⟨n, rfl⟩ : ∃ k, n = k + 1 := ⟨n - 1, by omega⟩
    have hq : s * q ≤ x := Nat.le_trans (Nat.mul_le_mul_left _ (by omega)) hYs
    have hq1 : 1 ≤ s * q := Nat.mul_pos hs h2
    obtain ⟨y, y1, y2, y3⟩ := ih (q + 1) n (sL z 23 x (lN (V x + V (x - s * q)))) _ (by omega) (by omega) (by omega) (h4.put x (V x + V (x - s * q)))
    refine ⟨y, ?_, (O23.sL z _ _).tr y2, y3.eq fun j hj => ?_⟩
    · rw [fX3_letEat_L36_s, if_neg (nI_nlt (by omega) (by omega)), rgs hx (by decide), lts, lts, pk_mul, Nat.mul_comm q s, pk_sub hq, rgs (by omega) (by decide), lts, lts, rgs hx (by decide), lts, lts, clamp (by omega), clamp (by omega), h4 x hx, h4 _ (by omega), lN_add, show nI q + (1 : Int32) = nI (q + 1) from nI_1 q, y1]
    · by_cases e : j = x
      · rw [if_pos e, if_pos e, if_pos rfl, sm_head, Nat.add_assoc]
        congr 2
        refine sm_congr fun i _ => ?_
        have : 1 ≤ s * (q + 1 + i) := Nat.mul_pos hs (by omega)
        rw [if_neg (by omega), show q + 1 + i = q + (i + 1) by omega]
      · rw [if_neg e, if_neg e, if_neg e]
theorem eat_congr {s : Nat} {V W : Nat → Nat} {x : Nat} (h : ∀ j, j ≤ x → V j = W j) : eat s V x = eat s W x := by
  unfold eat
  rw [h x (Nat.le_refl x)]
  congr 1
  exact sm_congr fun j _ => h _ (by omega)
theorem eat16 {s : Nat} (hs : 1 ≤ s) (hs2 : s ≤ 169) : ∀ (x n : Nat) (z : Mem) (V : Nat → Nat), x < 2197 → x < n → Ar 23 z V → ∃ y, fX3_letEat_L16 (fun (x3_6 : Int32) (z_5 : Mem) => some ((), z_5)) (nI s) n (nI x) z = some ((), y) ∧ O23 z y ∧ Ar 23 y (fun j => if s ≤ j ∧ j ≤ x then eat s V j else V j) := by
  intro x
  induction x with
  | zero =>
    intro n z V h1 h2 h3
    obtain ⟨n, rfl⟩ : ∃ k, n = k + 1 := ⟨n - 1, by omega⟩
    refine ⟨z, by rw [fX3_letEat_L16_s, if_pos (nI_lt (by omega) (by omega))], O23.rf z, h3.eq fun j hj => ?_⟩
    rw [if_neg (by omega)]
  | succ x ih =>
    intro n z V h1 h2 h3
    obtain ⟨n, rfl⟩ : ∃ k, n = k + 1 := ⟨n - 1, by omega⟩
    by_cases q : x + 1 < s
    · refine ⟨z, by rw [fX3_letEat_L16_s, if_pos (nI_lt q (by omega))], O23.rf z, h3.eq fun j hj => ?_⟩
      rw [if_neg (by omega)]
    · have hd : nI (x + 1) / nI s = nI ((x + 1) / s) := pk_div (by omega) hs (by omega)
      have hl : (x + 1) / s < 2 ^ 31 := Nat.lt_of_le_of_lt (Nat.div_le_self _ _) (by omega)
      have hr : nI ((x + 1) / s) - nI ((x + 1) / s) / (13 : Int32) * (13 : Int32) = nI ((x + 1) / s % 13) := pk_rem (d := 13) hl (by decide) (by decide)
      have hm : (if nI ((x + 1) / s % 13) < (3 : Int32) then nI ((x + 1) / s % 13) else (3 : Int32)) = nI (min 3 ((x + 1) / s % 13)) := mns (G := 3) (by decide) (by omega)
      have hY : s * min 3 ((x + 1) / s % 13) ≤ x + 1 := by
        have k1 : min 3 ((x + 1) / s % 13) ≤ (x + 1) / s := Nat.le_trans (Nat.min_le_right _ _) (Nat.mod_le _ _)
        have := (Nat.le_div_iff_mul_le hs).mp k1
        rw [Nat.mul_comm] at this
        exact this
      rw [fX3_letEat_L16_s, if_neg (nI_nlt (by omega) (by omega)), nzs (nI_ne0 hs (by omega)), nzs (by decide), hd, hr, hm, lts]
      generalize hK : (fun (x5_16 : Int32) (z_15 : Mem) => lt (nI (x + 1) + (-1 : Int32)) (fun x3_17 => (fX3_letEat_L16 (fun (x3_6 : Int32) (z_5 : Mem) => some ((), z_5)) (nI s) n x3_17 z_15))) = K
      obtain ⟨y, y1, y2, y3⟩ := eat36 hs hs2 h1 (Nat.min_le_left 3 _) hY K (min 3 ((x + 1) / s % 13)) 1 FU z V (by omega) (by decide) (by unfold FU; omega) h3
      have y1' : fX3_letEat_L36 K (nI s) (nI (x + 1)) (nI (min 3 ((x + 1) / s % 13))) FU (1 : Int32) z = _ := y1
      rw [y1', ← hK]
      dsimp only
      rw [lts, pk_m1]
      obtain ⟨w, w1, w2, w3⟩ := ih n y _ (by omega) (by omega) y3
      refine ⟨w, w1, y2.tr w2, w3.eq fun j hj => ?_⟩
      by_cases e : s ≤ j ∧ j ≤ x
      · rw [if_pos e, if_pos (by omega)]
        exact eat_congr fun i hi => if_neg (by omega)
      · rw [if_neg e]
        by_cases g : j = x + 1
        · rw [if_pos g, if_pos (by omega), g]
          rfl
        · rw [if_neg g, if_neg (by omega)]
theorem letE {s e : Nat} (hs : 1 ≤ s) (hs2 : s ≤ 169) (he : 1 ≤ e) (he2 : e ≤ 2197) {z : Mem} {V : Nat → Nat} (h : Ar 23 z V) : ∃ y, fX3_letEat (nI s) (nI e) z = some ((), y) ∧ O23 z y ∧ Ar 23 y (fun j => if s ≤ j ∧ j < e then eat s V j else V j) := by
  obtain ⟨y, y1, y2, y3⟩ := eat16 hs hs2 (e - 1) FU z V (by omega) (by unfold FU; omega) h
  refine ⟨y, ?_, y2, y3.eq fun j hj => ?_⟩
  · unfold fX3_letEat
    rw [if_pos (show (1 : Int32) ≤ nI s from nI_le (a := 1) hs (by omega)), if_neg (show ¬ (2197 : Int32) < nI e from nI_nlt (a := 2197) he2 (by decide)), lts, show nI e - (1 : Int32) = nI (e - 1) from pk_sub (b := 1) he, lts, y1]
  · by_cases q : s ≤ j ∧ j < e
    · rw [if_pos q, if_pos (by omega)]
    · rw [if_neg q, if_neg (by omega)]
/-! the lightest -/
def lw4 (wt : Nat → Nat) : Option Nat → Nat
  | none => 0
  | some u => wt u
theorem light_L {m x : Nat} {c : Nat → Nat} {z : Mem} (hm : m ≤ 3) (hx : x < 2197) (h22 : ∀ i, i < m → z.1 22 i = nI (nw c i)) (hw : ∀ i, i < m → nw c i < 2 ^ 20) : ∀ (d i n : Nat), i + d = m → d < n → fX3_lightestAt_L12 (fun (x3_3 : Int32) (x4_4 : Int32) (x5_5 : Int32) (x6_6 : Int32) (z_2 : Mem) => some (x3_3, z_2)) (nI m) n (enc (lb (wtA c x) (fun _ => true) i)) (nI (lw4 (wtA c x) (lb (wtA c x) (fun _ => true) i))) (nI (x / 13 ^ i)) (nI i) z = some (enc (lb (wtA c x) (fun _ => true) m), z) := by
  intro d
  induction d with
  | zero =>
    intro i n h1 h2
    obtain ⟨n, rfl⟩ : ∃ k, n = k + 1 := ⟨n - 1, by omega⟩
    obtain rfl : i = m := by omega
    rw [fX3_lightestAt_L12_s, if_pos (nI_le (Nat.le_refl _) (by omega))]
  | succ d ih =>
    intro i n h1 h2
    obtain ⟨n, rfl⟩ : ∃ k, n = k + 1 := ⟨n - 1, by omega⟩
    have hi : i < m := by omega
    have hd : x / 13 ^ i < 2 ^ 31 := Nat.lt_of_le_of_lt (Nat.div_le_self _ _) (by omega)
    have hwi := hw i hi
    have e13 : x / 13 ^ i / 13 = x / 13 ^ (i + 1) := by rw [Nat.div_div_eq_div_mul, Nat.pow_succ]
    rw [← ih (i + 1) n (by omega) (by omega), fX3_lightestAt_L12_s, if_neg (nI_ge hi (by omega)), if_neg (show ¬ (3 : Int32) ≤ nI i from nI_ge (b := 3) (by omega) (by decide)), rgs (by omega) (by decide), lts, clamp (by omega), h22 i hi, nzs (by decide), show nI (x / 13 ^ i) - nI (x / 13 ^ i) / (13 : Int32) * (13 : Int32) = nI (x / 13 ^ i % 13) from pk_rem (d := 13) hd (by decide) (by decide), k8, nI_add, lts, jns]
    dsimp only
    have step : ∀ a b : Int32, nz (13 : Int32) (lt ((nI (x / 13 ^ i) / (13 : Int32)) : Int32) (fun x5_24 => lt (nI i + (1 : Int32)) (fun x6_25 => (fX3_lightestAt_L12 (fun (x3_3 : Int32) (x4_4 : Int32) (x5_5 : Int32) (x6_6 : Int32) (z_2 : Mem) => some (x3_3, z_2)) (nI m) n a b x5_24 x6_25 z)))) = fX3_lightestAt_L12 (fun (x3_3 : Int32) (x4_4 : Int32) (x5_5 : Int32) (x6_6 : Int32) (z_2 : Mem) => some (x3_3, z_2)) (nI m) n a b (nI (x / 13 ^ (i + 1))) (nI (i + 1)) z := by
      intro a b
      rw [nzs (by decide), lts, lts, show nI (x / 13 ^ i) / (13 : Int32) = nI (x / 13 ^ i / 13) from pk_div (d := 13) hd (by decide) (by decide), e13, show nI i + (1 : Int32) = nI (i + 1) from nI_1 i]
    rw [step, step]
    have lbs : lb (wtA c x) (fun _ => true) (i + 1) = (match lb (wtA c x) (fun _ => true) i with
      | none => some i
      | some q => if wtA c x q ≤ wtA c x i then some q else some i) := if_pos rfl
    rw [lbs]
    cases hl : lb (wtA c x) (fun _ => true) i with
    | none =>
      rw [if_pos (show enc none = (-9 : Int32) from rfl)]
      rfl
    | some u =>
      have hu := (lb_some _ _ _ _ hl).1
      dsimp only
      have hwu := hw u (by omega)
      have bu : wtA c x u < 2 ^ 30 := by unfold wtA; omega
      have i1 : nI (wtA c x u) ≤ nI (wtA c x i) ↔ wtA c x u ≤ wtA c x i := nI_leI (by omega) (by unfold wtA; omega)
      rw [if_neg (show ¬ enc (some u) = (-9 : Int32) from enc_ne (by omega))]
      by_cases g : wtA c x u ≤ wtA c x i
      · rw [if_pos g, if_pos (show nI (lw4 (wtA c x) (some u)) ≤ nI (nw c i + 8 * (x / 13 ^ i % 13)) from i1.mpr g)]
      · rw [if_neg g, if_neg (show ¬ nI (lw4 (wtA c x) (some u)) ≤ nI (nw c i + 8 * (x / 13 ^ i % 13)) from fun t => g (i1.mp t))]
        rfl
theorem light8 {m x : Nat} {c : Nat → Nat} {z : Mem} (hm : m ≤ 3) (hx : x < 2197) (h22 : ∀ i, i < m → z.1 22 i = nI (nw c i)) (hw : ∀ i, i < m → nw c i < 2 ^ 20) : fX3_lightestAt (nI x) (nI m) z = some (enc (lb (wtA c x) (fun _ => true) m), z) := by
  have h := light_L hm hx h22 hw m 0 FU (by omega) (by unfold FU; omega)
  rw [Nat.pow_zero, Nat.div_one] at h
  exact h
theorem enc_rul {m x r : Nat} {c : Nat → Nat} (hm : m ≤ 3) (hr : r ≤ 4) : enc (lb (wtA c x) (fun _ => true) m) = nI r ↔ rul c m x r = true := by
  unfold rul
  rw [decide_eq_true_iff]
  cases h : lb (wtA c x) (fun _ => true) m with
  | none => exact ⟨fun t => absurd t.symm (show ¬ nI r = -9 from ne9 (by omega)), fun t => by cases t⟩
  | some u =>
    have hu := (lb_some _ _ _ _ h).1
    exact ⟨fun t => by rw [(nI_eq (by omega) (by omega)).mp (show nI u = nI r from t)], fun t => by cases t; rfl⟩
theorem strike {m e r : Nat} {c : Nat → Nat} (hm : m ≤ 3) (he : e ≤ 2197) (hr : r ≤ 4) (hw : ∀ i, i < m → nw c i < 2 ^ 20) : ∀ (d a n : Nat) (z : Mem) (V : Nat → Nat), a + d = e → d < n → Ar 23 z V → (∀ x, V x < 2 ^ 63) → (∀ i, i < m → z.1 22 i = nI (nw c i)) → ∃ y, fX3_strikeOut_L3 (fun (x4_3 : Int32) (z_2 : Mem) => some ((), z_2)) (nI r) (nI m) (nI e) n (nI a) z = some ((), y) ∧ O23 z y ∧ Ar 23 y (fun j => if a ≤ j ∧ j < e then (if rul c m j r = true then V j else 0) else V j) := by
  intro d
  induction d with
  | zero =>
    intro a n z V h1 h2 h3 h4 h5
    obtain ⟨n, rfl⟩ : ∃ k, n = k + 1 := ⟨n - 1, by omega⟩
    obtain rfl : a = e := by omega
    exact ⟨z, by rw [fX3_strikeOut_L3_s, if_pos (nI_le (Nat.le_refl _) (by omega))], O23.rf z, h3.eq fun j hj => by rw [if_neg (by omega)]⟩
  | succ d ih =>
    intro a n z V h1 h2 h3 h4 h5
    obtain ⟨n, rfl⟩ : ∃ k, n = k + 1 := ⟨n - 1, by omega⟩
    have ha : a < 2197 := by omega
    rw [fX3_strikeOut_L3_s, if_neg (nI_ge (by omega) (by omega)), if_neg (show ¬ (2197 : Int32) ≤ nI a from nI_ge (b := 2197) ha (by decide)), rgs ha (by decide), lts, clamp (by omega), h3 a ha, show nI a + (1 : Int32) = nI (a + 1) from nI_1 a]
    by_cases v0 : V a = 0
    · rw [if_pos ((cmp0 (h4 a)).mpr v0), lts]
      obtain ⟨y, y1, y2, y3⟩ := ih (a + 1) n z V (by omega) (by omega) h3 h4 h5
      refine ⟨y, y1, y2, y3.eq fun j hj => ?_⟩
      by_cases g : j = a
      · rw [if_neg (by omega), if_pos (by omega), g, v0]
        split <;> rfl
      · by_cases w : a + 1 ≤ j ∧ j < e
        · rw [if_pos w, if_pos (show a ≤ j ∧ j < e by omega)]
        · rw [if_neg w, if_neg (by omega)]
    · rw [if_neg (fun t => v0 ((cmp0 (h4 a)).mp t)), light8 hm ha h5 hw, cls]
      by_cases g : rul c m a r = true
      · rw [if_pos ((enc_rul hm hr).mpr g), lts]
        obtain ⟨y, y1, y2, y3⟩ := ih (a + 1) n z V (by omega) (by omega) h3 h4 h5
        refine ⟨y, y1, y2, y3.eq fun j hj => ?_⟩
        by_cases q : j = a
        · rw [if_neg (by omega), if_pos (by omega), q, if_pos g]
        · by_cases w : a + 1 ≤ j ∧ j < e
          · rw [if_pos w, if_pos (show a ≤ j ∧ j < e by omega)]
          · rw [if_neg w, if_neg (by omega)]
      · rw [if_neg (fun t => g ((enc_rul hm hr).mp t)), rgs ha (by decide), lts, lts]
        obtain ⟨y, y1, y2, y3⟩ := ih (a + 1) n (sL z 23 a (lN 0)) _ (by omega) (by omega) (h3.put a 0) (fun x => by
          by_cases q : x = a
          · rw [if_pos q]; decide
          · rw [if_neg q]; exact h4 x) h5
        refine ⟨y, y1, (O23.sL z _ _).tr y2, y3.eq fun j hj => ?_⟩
        by_cases q : j = a
        · rw [if_neg (by omega), if_pos q, if_pos (by omega), q, if_neg g]
        · rw [if_neg q]
          by_cases w : a + 1 ≤ j ∧ j < e
          · rw [if_pos w, if_pos (show a ≤ j ∧ j < e by omega)]
          · rw [if_neg w, if_neg (by omega)]
theorem sumW {e : Nat} (he : e ≤ 2197) {z : Mem} {V : Nat → Nat} (h : Ar 23 z V) : ∀ (d a n : Nat), a + d = e → d < n → fX3_sumOfWays_L5 (fun (x2_3 : Int64) (x4_4 : Int32) (z_2 : Mem) => some (x2_3, z_2)) (nI e) n (lN (sm a V)) (nI a) z = some (lN (sm e V), z) := by
  intro d
  induction d with
  | zero =>
    intro a n h1 h2
    obtain ⟨n, rfl⟩ : ∃ k, n = k + 1 := ⟨n - 1, by omega⟩
    obtain rfl : a = e := by omega
    rw [fX3_sumOfWays_L5_s, if_pos (nI_le (Nat.le_refl _) (by omega))]
  | succ d ih =>
    intro a n h1 h2
    obtain ⟨n, rfl⟩ : ∃ k, n = k + 1 := ⟨n - 1, by omega⟩
    have ha : a < 2197 := by omega
    rw [fX3_sumOfWays_L5_s, if_neg (nI_ge (by omega) (by omega)), if_neg (show ¬ (2197 : Int32) ≤ nI a from nI_ge (b := 2197) ha (by decide)), rgs ha (by decide), lts, lts, lts, clamp (by omega), h a ha, lN_add, show nI a + (1 : Int32) = nI (a + 1) from nI_1 a]
    exact ih (a + 1) n (by omega) (by omega)
