/-! ===== the line: the reference ===== -/
theorem ate9 {x p : Nat} (hx : x < 2197) (hp : p < 3) (y : Mem) : fX9_ate (nI x) (nI p) y = some (nI (x / 13 ^ p % 13), y) := by
  unfold fX9_ate
  have r1 : nI x - nI x / (13 : Int32) * (13 : Int32) = nI (x % 13) := pk_rem (d := 13) (by omega) (by decide) (by decide)
  have d1 : nI x / (13 : Int32) = nI (x / 13) := pk_div (d := 13) (by omega) (by decide) (by decide)
  have r2 : nI (x / 13) - nI (x / 13) / (13 : Int32) * (13 : Int32) = nI (x / 13 % 13) := pk_rem (d := 13) (by omega) (by decide) (by decide)
  have d2 : nI x / (169 : Int32) = nI (x / 169) := pk_div (d := 169) (by omega) (by decide) (by decide)
  obtain rfl | rfl | rfl : p = 0 ∨ p = 1 ∨ p = 2 := by omega
  · rw [if_pos (show nI 0 = 0 from rfl), nzs (by decide), r1, Nat.pow_zero, Nat.div_one]
  · rw [if_neg (show ¬ nI 1 = 0 by decide), if_pos (show nI 1 = (1 : Int32) from rfl), nzs (by decide), nzs (by decide), d1, r2, Nat.pow_one]
  · rw [if_neg (show ¬ nI 2 = 0 by decide), if_neg (show ¬ nI 2 = (1 : Int32) by decide), nzs (by decide), d2, show 13 ^ 2 = 169 from rfl, show x / 169 % 13 = x / 169 by omega]
def flg (wt : Nat → Nat) (r : Nat) : Nat → Bool
  | 0 => true
  | q + 1 => flg wt r q && decide (q = r ∨ wt r < wt q ∨ (wt r = wt q ∧ r < q))
theorem flg_no {wt : Nat → Nat} {r s : Nat} (h : flg wt r s = false) (d : Nat) : flg wt r (s + d) = false := by
  induction d with
  | zero => exact h
  | succ d ih =>
    show (flg wt r (s + d) && _) = false
    rw [ih]
    rfl
theorem flg_iff {wt : Nat → Nat} {r : Nat} : ∀ n, flg wt r n = true ↔ ∀ q, q < n → (q = r ∨ wt r < wt q ∨ (wt r = wt q ∧ r < q)) := by
  intro n
  induction n with
  | zero => exact ⟨fun _ q h => absurd h (by omega), fun _ => rfl⟩
  | succ n ih =>
    show (flg wt r n && decide _) = true ↔ _
    rw [Bool.and_eq_true, ih, decide_eq_true_iff]
    constructor
    · rintro ⟨h1, h2⟩ q hq
      by_cases e : q = n
      · rw [e]; exact h2
      · exact h1 q (by omega)
    · intro h
      exact ⟨fun q hq => h q (by omega), h n (by omega)⟩
theorem flg_rul {c : Nat → Nat} {m x r : Nat} (hr : r < m) : flg (wtA c x) r m = rul c m x r := by
  have e : flg (wtA c x) r m = true ↔ rul c m x r = true := by
    rw [flg_iff]
    unfold rul
    rw [decide_eq_true_iff, lb_iff _ _ m r hr]
    constructor
    · intro h
      refine ⟨rfl, fun o ho hne _ hl => ?_⟩
      have := h o ho
      unfold Lt at hl
      omega
    · rintro ⟨_, h⟩ q hq
      by_cases e : q = r
      · exact Or.inl e
      · have := h q hq e rfl
        unfold Lt at this
        omega
  cases h : rul c m x r
  · cases g : flg (wtA c x) r m
    · rfl
    · have := e.mp g
      rw [h] at this
      exact absurd this (by decide)
  · exact e.mpr h
theorem rulr_L {c : Nat → Nat} {m x r : Nat} {y : Mem} (hm : m ≤ 3) (hx : x < 2197) (hr : r < m) (hw : ∀ i, i < m → nw c i < 2 ^ 20) (h6 : y.1 25 6 = nI m) (hh : holds (y.1 27) m c) (K : Int32 → Int32 → Mem → Option (Int32 × Mem)) : ∀ (d q n : Nat), q + d = m → d < n → ∃ x', fX9_isRuler_L17 K (nI x) (nI r) n (bI (flg (wtA c x) r q)) (nI q) y = K (bI (flg (wtA c x) r m)) x' y := by
  intro d
  induction d with
  | zero =>
    intro q n h1 h2
    obtain ⟨n, rfl⟩ : ∃ k, n = k + 1 := ⟨n - 1, by omega⟩
    obtain rfl : q = m := by omega
    exact ⟨_, by rw [fX9_isRuler_L17_s, h6, if_pos (nI_le (Nat.le_refl _) (by omega))]⟩
  | succ d ih =>
    intro q n h1 h2
    obtain ⟨n, rfl⟩ : ∃ k, n = k + 1 := ⟨n - 1, by omega⟩
    have hq : q < m := by omega
    rw [fX9_isRuler_L17_s, h6, if_neg (nI_ge hq (by omega))]
    cases hb : flg (wtA c x) r q
    · refine ⟨nI q, ?_⟩
      have := flg_no hb (d + 1)
      rw [h1] at this
      rw [if_pos (show bI false = 0 from rfl), this]
    · rw [if_neg (show ¬ bI true = 0 by decide), show nI q + (1 : Int32) = nI (q + 1) from nI_1 q]
      obtain ⟨x', hx'⟩ := ih (q + 1) n (by omega) (by omega)
      refine ⟨x', ?_⟩
      rw [← hx']
      have eb : flg (wtA c x) r (q + 1) = decide (q = r ∨ wtA c x r < wtA c x q ∨ (wtA c x r = wtA c x q ∧ r < q)) := by
        show (flg (wtA c x) r q && _) = _
        rw [hb, Bool.true_and]
      rw [eb]
      by_cases e : q = r
      · rw [if_pos (show nI q = nI r by rw [e]), lts, decide_eq_true (Or.inl e)]
        rfl
      · have a1 : wtA c x r < 2 ^ 20 + 104 := by have := hw r hr; unfold wtA; omega
        have w1 := hw r hr
        have w2 := hw q hq
        rw [if_neg (fun t => e ((nI_eq (by omega) (by omega)).mp t)), noonM (m := m) (by omega) hr hh, cls, ate9 hx (by omega), cls, noonM (m := m) (by omega) hq hh, cls, ate9 hx (by omega), cls, k8, k8, nI_add, nI_add]
        have li : fX9_isLighter (nI (nw c r + 8 * (x / 13 ^ r % 13))) (nI r) (nI (nw c q + 8 * (x / 13 ^ q % 13))) (nI q) y = some (if wtA c x r < wtA c x q ∨ (wtA c x r = wtA c x q ∧ r < q) then 1 else 0, y) := by
          have b1 : nw c r + 8 * (x / 13 ^ r % 13) < 2 ^ 30 := by omega
          have b2 : nw c q + 8 * (x / 13 ^ q % 13) < 2 ^ 30 := by omega
          unfold fX9_isLighter
          show _ = some (if nw c r + 8 * (x / 13 ^ r % 13) < nw c q + 8 * (x / 13 ^ q % 13) ∨ (nw c r + 8 * (x / 13 ^ r % 13) = nw c q + 8 * (x / 13 ^ q % 13) ∧ r < q) then 1 else 0, y)
          generalize nw c r + 8 * (x / 13 ^ r % 13) = A at *
          generalize nw c q + 8 * (x / 13 ^ q % 13) = B at *
          by_cases g1 : A < B
          · rw [if_pos (nI_lt g1 (by omega)), if_pos (Or.inl g1)]
          · rw [if_neg (nI_nlt (by omega) (by omega))]
            by_cases g2 : A = B
            · rw [if_pos (by rw [g2])]
              by_cases g3 : r < q
              · rw [if_neg (nI_ge g3 (by omega)), if_pos (Or.inr ⟨g2, g3⟩)]
              · rw [if_pos (nI_le (by omega) (by omega)), if_neg (by omega)]
            · rw [if_neg (fun t => g2 ((nI_eq (by omega) (by omega)).mp t)), if_neg (by omega)]
        rw [li, cls]
        by_cases g : wtA c x r < wtA c x q ∨ (wtA c x r = wtA c x q ∧ r < q)
        · rw [if_pos g, if_neg one0, lts, decide_eq_true (Or.inr g)]
          rfl
        · rw [if_neg g, if_pos rfl, lts, decide_eq_false (fun t => t.elim e g)]
          rfl
theorem rulr {c : Nat → Nat} {m x r : Nat} {y : Mem} (h1 : 1 ≤ m) (hm : m ≤ 3) (hx : x < 2197) (hr4 : r ≤ 4) (hw : ∀ i, i < m → nw c i < 2 ^ 20) (h6 : y.1 25 6 = nI m) (hh : holds (y.1 27) m c) : fX9_isRuler (nI x) (nI r) y = some (bI (rul c m x r), y) := by
  unfold fX9_isRuler
  rw [jns]
  dsimp only
  rw [h6]
  have bo0 : ∀ b : Bool, bo (bI b) (some (bI b, y)) = some (bI b, y) := fun b => by unfold bI; rw [bos]
  by_cases hr : r < m
  · rw [if_neg (nI_ge hr (by omega))]
    obtain ⟨x', h⟩ := rulr_L hm hx hr hw h6 hh (fun (x3_6 : Int32) (x4_7 : Int32) (z_5 : Mem) => (bo x3_6 (some (x3_6, z_5)))) m 0 FU (by omega) (by unfold FU; omega)
    rw [← flg_rul hr, ← bo0]
    exact h
  · have no : rul c m x r = false := by
      unfold rul
      apply decide_eq_false
      intro t
      have := (lb_some _ _ _ _ t).1
      omega
    rw [if_pos (nI_le (by omega) (by omega)), no]
    have FS : FU = 999999 + 1 := rfl
    rw [FS, fX9_isRuler_L17_s, h6, if_neg (show ¬ nI m ≤ (0 : Int32) from nI_nle (by omega) (by omega)), if_pos rfl]
    rfl
/-! a month -/
def O39 (z y : Mem) : Prop := y.1 = z.1 ∧ ∀ q, q ≠ 39 → y.2 q = z.2 q
theorem O39.rf (z : Mem) : O39 z z := ⟨rfl, fun _ _ => rfl⟩
theorem O39.tr {a b c : Mem} (h : O39 a b) (g : O39 b c) : O39 a c := ⟨g.1.trans h.1, fun q hq => (g.2 q hq).trans (h.2 q hq)⟩
theorem O39.sL (z : Mem) (k : Nat) (v : Int64) : O39 z (sL z 39 k v) := ⟨rfl, fun q hq => by rw [sL2, if_neg hq]⟩
theorem Ar.go {q : Nat} {z y : Mem} {V : Nat → Nat} (h : Ar q z V) (e : y.2 q = z.2 q) : Ar q y V := fun j hj => by rw [e]; exact h j hj
def cb (c W : Nat → Nat) (m r a k x : Nat) : Nat := if k < 4 ^ m ∧ a + off k = x ∧ rul c m x r = true then W a else 0
theorem lim3 {m : Nat} {y : Mem} (h1 : 1 ≤ m) (hm : m ≤ 3) (h6 : y.1 25 6 = nI m) {β : Type} (K : Int32 → β) : (if (y.1 25 6) = (1 : Int32) then K (4 : Int32) else (if (y.1 25 6) = (2 : Int32) then K (16 : Int32) else K (64 : Int32))) = K (nI (4 ^ m)) := by
  rw [h6]
  obtain rfl | rfl | rfl : m = 1 ∨ m = 2 ∨ m = 3 := by omega
  · rw [if_pos (show nI 1 = (1 : Int32) from rfl)]; rfl
  · rw [if_neg (show ¬ nI 2 = (1 : Int32) by decide), if_pos (show nI 2 = (2 : Int32) from rfl)]; rfl
  · rw [if_neg (show ¬ nI 3 = (1 : Int32) by decide), if_neg (show ¬ nI 3 = (2 : Int32) by decide)]; rfl
theorem lN0 (v : Nat) : lN v + (0 : Int64) = lN v := lN_add v 0
theorem cmpP {v : Nat} (h : v < 2 ^ 63) (h0 : v ≠ 0) : ¬ lg_cmp (lN v) (0 : Int64) ≤ 0 := by
  have g : 0 < lg_cmp (lN v) (0 : Int64) := (lg_cmp_gt _ _).mpr ((pk_lLT (a := 0) (by decide) h).mpr (by omega))
  have g' := lt32.mp g
  intro t
  have t' := le32.mp t
  omega
theorem g33 {c W : Nat → Nat} {m r a : Nat} (h1 : 1 ≤ m) (hm : m ≤ 3) (hr4 : r ≤ 4) (hw : ∀ i, i < m → nw c i < 2 ^ 20) (ha : a < 2197) (ho : ∀ k, k < 4 ^ m → a + off k < 2197) (hW : W a ≠ 0) (hB : W a < 2 ^ 63) (K : Int32 → Mem → Option (Unit × Mem)) : ∀ (d k n : Nat) (z : Mem) (T : Nat → Nat), k + d = 64 → d < n → z.1 25 6 = nI m → holds (z.1 27) m c → Ar 38 z W → Ar 39 z T → ∃ x' y, fX9_goMonth_L33 K (nI r) (nI a) n (nI k) z = K x' y ∧ O39 z y ∧ Ar 39 y (fun x => T x + sm d (fun j => cb c W m r a (k + j) x)) := by
  have n4 : ¬ (4 : Int32) = 0 := by decide
  have n16 : ¬ (16 : Int32) = 0 := by decide
  intro d
  induction d with
  | zero =>
    intro k n z T q1 q2 q3 q4 q5 q6
    obtain ⟨n, rfl⟩ : ∃ k, n = k + 1 := ⟨n - 1, by omega⟩
    obtain rfl : k = 64 := by omega
    exact ⟨_, z, by rw [fX9_goMonth_L33_s, if_pos (show (64 : Int32) ≤ nI 64 by decide)], O39.rf z, q6⟩
  | succ d ih =>
    intro k n z T q1 q2 q3 q4 q5 q6
    obtain ⟨n, rfl⟩ : ∃ k, n = k + 1 := ⟨n - 1, by omega⟩
    have hk : k < 64 := by omega
    have r1 : nI k - nI k / (4 : Int32) * (4 : Int32) = nI (k % 4) := pk_rem (d := 4) (by omega) (by decide) (by decide)
    have d1 : nI k / (4 : Int32) = nI (k / 4) := pk_div (d := 4) (by omega) (by decide) (by decide)
    have r2 : nI (k / 4) - nI (k / 4) / (4 : Int32) * (4 : Int32) = nI (k / 4 % 4) := pk_rem (d := 4) (by omega) (by decide) (by decide)
    have d2 : nI k / (16 : Int32) = nI (k / 16) := pk_div (d := 16) (by omega) (by decide) (by decide)
    have sh : ∀ x (T : Nat → Nat), T x + sm (d + 1) (fun j => cb c W m r a (k + j) x) = T x + cb c W m r a k x + sm d (fun j => cb c W m r a (k + 1 + j) x) := by
      intro x T
      rw [sm_head, Nat.add_zero, ← Nat.add_assoc]
      congr 1
      exact sm_congr fun j _ => by rw [show k + (j + 1) = k + 1 + j by omega]
    have pw : 4 ^ m ≤ 64 := Nat.pow_le_pow_right (n := 4) (by decide) hm
    rw [fX9_goMonth_L33_s, if_neg (show ¬ (64 : Int32) ≤ nI k from nI_ge (b := 64) hk (by decide)), rgs ha (by decide), lts, clamp (by omega), q5 a ha, if_neg (cmpP hB hW), jns]
    dsimp only
    rw [lim3 h1 hm q3 (fun v : Int32 => jn (fun (v_38 : Int32) (z_39 : Mem) => nz (4 : Int32) (nz (4 : Int32) (nz (4 : Int32) (lt (((nI a + (nI k - nI k / (4 : Int32) * (4 : Int32))) + ((13 : Int32) * ((nI k / (4 : Int32)) - (nI k / (4 : Int32)) / (4 : Int32) * (4 : Int32)))) : Int32) (fun y_43 => nz (16 : Int32) (lt ((y_43 + ((169 : Int32) * (nI k / (16 : Int32)))) : Int32) (fun x5_45 => (jn (fun (v_47 : Int32) (z_48 : Mem) => rg v_47 2197 (lt ((z_48.2 39 v_47.toNatClampNeg) : Int64) (fun a_50 => (if v_38 = 0 then lt ((a_50 + (0 : Int64)) : Int64) (fun y_52 => rg v_47 2197 (lt (sL z_48 39 v_47.toNatClampNeg y_52) (fun z_54 => lt (nI k + (1 : Int32)) (fun x3_55 => (fX9_goMonth_L33 K (nI r) (nI a) n x3_55 z_54))))) else cl (fX9_isRuler x5_45 (nI r) z_48) (fun r_56 z_57 => (if r_56 = 0 then lt ((a_50 + (0 : Int64)) : Int64) (fun y_60 => rg v_47 2197 (lt (sL z_57 39 v_47.toNatClampNeg y_60) (fun z_62 => lt (nI k + (1 : Int32)) (fun x3_63 => (fX9_goMonth_L33 K (nI r) (nI a) n x3_63 z_62))))) else rg (nI a) 2197 (lt ((z_57.2 38 a) : Int64) (fun a_65 => lt ((a_50 + a_65) : Int64) (fun y_66 => rg v_47 2197 (lt (sL z_57 39 v_47.toNatClampNeg y_66) (fun z_68 => lt (nI k + (1 : Int32)) (fun x3_69 => (fX9_goMonth_L33 K (nI r) (nI a) n x3_69 z_68))))))))))))) (fun K_46 => (if v_38 = 0 then (K_46 (0 : Int32) z_39) else (K_46 x5_45 z_39))))))))))) (fun K_37 => (if v ≤ nI k then (K_37 (0 : Int32) z) else (K_37 (1 : Int32) z))))]
    rw [jns]
    dsimp only
    by_cases g : k < 4 ^ m
    · have hto := ho k g
      rw [if_neg (nI_ge g (by omega)), nzs n4, nzs n4, nzs n4, lts, nzs n16, lts, r1, d1, r2, d2, nI_add, show (13 : Int32) * nI (k / 4 % 4) = nI (13 * (k / 4 % 4)) from mlt 13 _ rfl, nI_add, show (169 : Int32) * nI (k / 16) = nI (169 * (k / 16)) from mlt 169 _ rfl, nI_add, show a + k % 4 + 13 * (k / 4 % 4) + 169 * (k / 16) = a + off k by unfold off; omega, jns]
      dsimp only
      rw [if_neg one0, rgs hto (by decide), lts, clamp (by omega), q6 _ hto, if_neg one0, rulr h1 hm hto hr4 hw q3 q4, cls, show nI k + (1 : Int32) = nI (k + 1) from nI_1 k]
      cases hb : rul c m (a + off k) r
      · rw [if_pos (show bI false = 0 from rfl), lN0, lts, rgs hto (by decide), lts, lts]
        obtain ⟨x', y, y1, y2, y3⟩ := ih (k + 1) n (sL z 39 (a + off k) (lN (T (a + off k)))) _ (by omega) (by omega) q3 q4 (q5.go ((O39.sL z _ _).2 38 (by decide))) (q6.put (a + off k) (T (a + off k)))
        refine ⟨x', y, y1, (O39.sL z _ _).tr y2, y3.eq fun x hx => ?_⟩
        rw [sh x T]
        congr 1
        have c0 : cb c W m r a k x = 0 := if_neg (fun t => by
          have := t.2.2
          rw [← t.2.1, hb] at this
          exact absurd this (by decide))
        rw [c0]
        by_cases e : x = a + off k
        · rw [if_pos e, e, Nat.add_zero]
        · rw [if_neg e, Nat.add_zero]
      · rw [if_neg (show ¬ bI true = 0 by decide), rgs ha (by decide), lts, q5 a ha, lts, lN_add, rgs hto (by decide), lts, lts]
        obtain ⟨x', y, y1, y2, y3⟩ := ih (k + 1) n (sL z 39 (a + off k) (lN (T (a + off k) + W a))) _ (by omega) (by omega) q3 q4 (q5.go ((O39.sL z _ _).2 38 (by decide))) (q6.put (a + off k) (T (a + off k) + W a))
        refine ⟨x', y, y1, (O39.sL z _ _).tr y2, y3.eq fun x hx => ?_⟩
        rw [sh x T]
        congr 1
        by_cases e : x = a + off k
        · have c0 : cb c W m r a k x = W a := if_pos ⟨g, e.symm, by rw [e]; exact hb⟩
          rw [if_pos e, c0, e]
        · have c0 : cb c W m r a k x = 0 := if_neg (fun t => e t.2.1.symm)
          rw [if_neg e, c0, Nat.add_zero]
    · have h00 : (0 : Int32).toNatClampNeg = 0 := rfl
      rw [if_pos (nI_le (by omega) (by omega)), nzs n4, nzs n4, nzs n4, lts, nzs n16, lts, jns]
      dsimp only
      rw [if_pos rfl, show ∀ k : Option (Unit × Mem), rg (0 : Int32) 2197 k = k from fun k => rgs (n := 0) (by decide) (by decide) k, lts, if_pos rfl, h00, q6 0 (by decide), lN0, lts, show ∀ k : Option (Unit × Mem), rg (0 : Int32) 2197 k = k from fun k => rgs (n := 0) (by decide) (by decide) k, lts, lts, show nI k + (1 : Int32) = nI (k + 1) from nI_1 k]
      obtain ⟨x', y, y1, y2, y3⟩ := ih (k + 1) n (sL z 39 0 (lN (T 0))) _ (by omega) (by omega) q3 q4 (q5.go ((O39.sL z _ _).2 38 (by decide))) (q6.put 0 (T 0))
      refine ⟨x', y, y1, (O39.sL z _ _).tr y2, y3.eq fun x hx => ?_⟩
      rw [sh x T]
      congr 1
      have c0 : cb c W m r a k x = 0 := if_neg (fun t => g t.1)
      rw [c0, Nat.add_zero]
      by_cases e : x = 0
      · rw [if_pos e, e]
      · rw [if_neg e]
