/-! ===== bread from elsewhere ===== -/
def fdA (c : Nat → Nat) (p o : Nat) : Nat := nw c p + (if o < p then 1 else 0)
def fd1 (c : Nat → Nat) (p o : Nat) : Nat := if o = p then 0 else (fdA c p o - nw c o + 7) / 8
def fsum (c : Nat → Nat) (p : Nat) : Nat → Nat
  | 0 => 0
  | i + 1 => fsum c p i + fd1 c p i
theorem n8 : ¬ (8 : Int32) = 0 := by decide
theorem loaves8 {m p : Nat} {c : Nat → Nat} {z : Mem} (hm : m ≤ 5) (hp : p < m) (hz : z.1 2 1 = nI m) (hh : holds (z.1 11) m c) (hw : ∀ p, p < m → nw c p < 2 ^ 20) : fX2_loavesToWin (nI p) z = some (nI (fsum c p m), z) := by
  have main : ∀ (d i n : Nat), i + d = m → d < n → fX2_loavesToWin_L4 (fun (x2_3 : Int32) (_ : Int32) (z_2 : Mem) => some (x2_3, z_2)) (nI p) n (nI (fsum c p i)) (nI i) z = some (nI (fsum c p m), z) := by
    intro d
    induction d with
    | zero =>
      intro i n h1 h2
      obtain ⟨n, rfl⟩ : ∃ k, n = k + 1 := ⟨n - 1, by omega⟩
      have : i = m := by omega
      subst this
      rw [fX2_loavesToWin_L4_s, hz, if_pos (nI_le (Nat.le_refl i) (by omega))]
    | succ d ih =>
      intro i n h1 h2
      obtain ⟨n, rfl⟩ : ∃ k, n = k + 1 := ⟨n - 1, by omega⟩
      have hi : i < m := by omega
      have e1 : nI i + (1 : Int32) = nI (i + 1) := nI_1 i
      have w1 := hw i hi
      have w2 := hw p hp
      have F : fsum c p (i + 1) = fsum c p i + fd1 c p i := rfl
      rw [← ih (i + 1) n (by omega) (by omega), fX2_loavesToWin_L4_s, hz, if_neg (nI_ge hi (by omega)), noon2 hm hp hh, cls, noon2 hm hi hh, cls, jns, F]
      dsimp only
      have go : ∀ t : Nat, t = (if i < p then 1 else 0) → lt (((nI (nw c p) - nI (nw c i)) + nI t) : Int32) (fun x4_19 => (if x4_19 ≤ 0 then lt (nI i + (1 : Int32)) (fun x3_21 => (fX2_loavesToWin_L4 (fun (x2_3 : Int32) (_ : Int32) (z_2 : Mem) => some (x2_3, z_2)) (nI p) n (nI (fsum c p i)) x3_21 z)) else (if nI i = nI p then lt (nI i + (1 : Int32)) (fun x3_23 => (fX2_loavesToWin_L4 (fun (x2_3 : Int32) (_ : Int32) (z_2 : Mem) => some (x2_3, z_2)) (nI p) n (nI (fsum c p i)) x3_23 z)) else nz (8 : Int32) (lt ((nI (fsum c p i) + (((x4_19 + (8 : Int32)) - (1 : Int32)) / (8 : Int32))) : Int32) (fun x2_25 => lt (nI i + (1 : Int32)) (fun x3_26 => (fX2_loavesToWin_L4 (fun (x2_3 : Int32) (_ : Int32) (z_2 : Mem) => some (x2_3, z_2)) (nI p) n x2_25 x3_26 z))))))) = fX2_loavesToWin_L4 (fun (x2_3 : Int32) (_ : Int32) (z_2 : Mem) => some (x2_3, z_2)) (nI p) n (nI (fsum c p i + fd1 c p i)) (nI (i + 1)) z := by
        intro t ht
        have ht1 : t ≤ 1 := by rw [ht]; split <;> omega
        have eA : fdA c p i = nw c p + t := by unfold fdA; rw [ht]
        have ex : nI (nw c p) - nI (nw c i) + nI t = nI (nw c p + t) - nI (nw c i) := by
          rw [← nI_add, Int32.sub_eq_add_neg, Int32.sub_eq_add_neg, Int32.add_assoc, Int32.add_comm (-nI (nw c i)), ← Int32.add_assoc]
        rw [lts, ex]
        by_cases q : nw c p + t ≤ nw c i
        · have le0 : nI (nw c p + t) - nI (nw c i) ≤ 0 := by
            rw [le32, pk_sub_toInt (by omega) (by omega)]
            show _ ≤ (0 : Int)
            omega
          have f0 : fd1 c p i = 0 := by unfold fd1; rw [eA]; split <;> omega
          rw [if_pos le0, lts, e1, f0]
          rfl
        · have gt0 : ¬ nI (nw c p + t) - nI (nw c i) ≤ 0 := by
            rw [pk_sub (by omega)]
            exact nI_nle (by omega) (by omega)
          rw [if_neg gt0]
          by_cases e : i = p
          · have f0 : fd1 c p i = 0 := by unfold fd1; rw [if_pos e]
            rw [if_pos (by rw [e]), lts, e1, f0]
            rfl
          · have f1 : fd1 c p i = (nw c p + t - nw c i + 7) / 8 := by unfold fd1; rw [if_neg e, eA]
            have e7 : nI (nw c p + t - nw c i) + (8 : Int32) - (1 : Int32) = nI (nw c p + t - nw c i + 7) := by
              rw [show nI (nw c p + t - nw c i) + (8 : Int32) = nI (nw c p + t - nw c i + 8) from nI_add _ 8]
              exact pk_sub (a := nw c p + t - nw c i + 8) (b := 1) (by omega)
            rw [if_neg (fun r => e ((nI_eq (by omega) (by omega)).mp r)), nzs n8, lts, pk_sub (by omega), e7, show nI (nw c p + t - nw c i + 7) / (8 : Int32) = _ from pk_div (d := 8) (by omega) (by decide) (by decide), nI_add, lts, e1, f1]
      by_cases l : p ≤ i
      · rw [if_pos (nI_le l (by omega))]
        exact go 0 (by rw [if_neg (by omega)])
      · rw [if_neg (nI_ge (by omega) (by omega))]
        exact go 1 (by rw [if_pos (by omega)])
  exact main m 0 FU (by omega) (by unfold FU; omega)
theorem feed9 {m p : Nat} {c : Nat → Nat} {z : Mem} (hm : m ≤ 5) (hp : p < m) (hz : z.1 25 6 = nI m) (hh : holds (z.1 27) m c) (hw : ∀ p, p < m → nw c p < 2 ^ 19) : fX9_feed_L14 (fun (x2_7 : Int32) (_ : Int32) (z_6 : Mem) => some (x2_7, z_6)) (nI p) FU 0 0 z = some (nI (fsum c p m), z) := by
  have wl : ∀ (o : Nat), o < m → ¬ o = p → ∀ (K : Int32 → Int32 → Mem → Option (Int32 × Mem)) (e v s n : Nat), (fdA c p o - v + 7) / 8 = e → v < 2 ^ 19 + 16 → e < n → fX9_feed_L29 K (nI p) (nI o) n (nI s) (nI v) z = K (nI (s + e)) (nI (v + 8 * e)) z := by
    intro o ho hne K e
    have w2 := hw p hp
    have hA : fdA c p o ≤ nw c p + 1 := by unfold fdA; split <;> omega
    have hA2 : fdA c p o = nw c p + (if o < p then 1 else 0) := rfl
    induction e with
    | zero =>
      intro v s n he hv hn
      obtain ⟨n, rfl⟩ : ∃ k, n = k + 1 := ⟨n - 1, by omega⟩
      have li : nw c p < v ∨ (nw c p = v ∧ p < o) := by
        rw [hA2] at he
        by_cases q : o < p
        · rw [if_pos q] at he; omega
        · rw [if_neg q] at he; omega
      rw [fX9_feed_L29_s, if_neg (fun r => hne ((nI_eq (by omega) (by omega)).mp r)), noonM hm hp hh, cls, lighter9 (by omega) (by omega) (by omega) (by omega), cls, if_pos li, if_neg one0]
      rfl
    | succ e ih =>
      intro v s n he hv hn
      obtain ⟨n, rfl⟩ : ∃ k, n = k + 1 := ⟨n - 1, by omega⟩
      have li : ¬ (nw c p < v ∨ (nw c p = v ∧ p < o)) := by
        rw [hA2] at he
        by_cases q : o < p
        · rw [if_pos q] at he; omega
        · rw [if_neg q] at he; omega
      rw [fX9_feed_L29_s, if_neg (fun r => hne ((nI_eq (by omega) (by omega)).mp r)), noonM hm hp hh, cls, lighter9 (by omega) (by omega) (by omega) (by omega), cls, if_neg li, if_pos rfl, lts, lts, show nI v + (8 : Int32) = nI (v + 8) from nI_add v 8, show nI s + (1 : Int32) = nI (s + 1) from nI_1 s, ih (v + 8) (s + 1) n (by omega) (by omega) (by omega)]
      rw [show s + 1 + e = s + (e + 1) by omega, show v + 8 + 8 * e = v + 8 * (e + 1) by omega]
  have main : ∀ (d i n : Nat), i + d = m → d < n → fX9_feed_L14 (fun (x2_7 : Int32) (_ : Int32) (z_6 : Mem) => some (x2_7, z_6)) (nI p) n (nI (fsum c p i)) (nI i) z = some (nI (fsum c p m), z) := by
    intro d
    induction d with
    | zero =>
      intro i n h1 h2
      obtain ⟨n, rfl⟩ : ∃ k, n = k + 1 := ⟨n - 1, by omega⟩
      have : i = m := by omega
      subst this
      rw [fX9_feed_L14_s, hz, if_pos (nI_le (Nat.le_refl i) (by omega))]
    | succ d ih =>
      intro i n h1 h2
      obtain ⟨n, rfl⟩ : ∃ k, n = k + 1 := ⟨n - 1, by omega⟩
      have hi : i < m := by omega
      have w1 := hw i hi
      have w2 := hw p hp
      have e1 : nI i + (1 : Int32) = nI (i + 1) := nI_1 i
      have F : fsum c p (i + 1) = fsum c p i + fd1 c p i := rfl
      rw [← ih (i + 1) n (by omega) (by omega), fX9_feed_L14_s, hz, if_neg (nI_ge hi (by omega)), noonM hm hi hh, cls, F]
      by_cases e : i = p
      · have f0 : fd1 c p i = 0 := by unfold fd1; rw [if_pos e]
        rw [show FU = (FU - 1) + 1 from rfl, fX9_feed_L29_s, if_pos (by rw [e]), lts, e1, f0]
        rfl
      · have f1 : fd1 c p i = (fdA c p i - nw c i + 7) / 8 := by unfold fd1; rw [if_neg e]
        have hA : fdA c p i ≤ nw c p + 1 := by unfold fdA; split <;> omega
        rw [wl i hi e _ _ _ _ _ rfl (by omega) (by unfold FU; omega), lts, e1, f1]
  exact main m 0 FU (by omega) (by unfold FU; omega)
theorem ok_feed (p : Int32) : Ok (fX8_feed p) (fX9_feed p) := by
  refine ok_read fun k S z y hk hG hC hR => ?_
  obtain ⟨hm, hb, hil, hlw, hcb⟩ := hG.2.1
  obtain ⟨c1, c2, c3, c4, c5'⟩ := hC.2.1
  obtain ⟨r1, r2, r3, r4, r5⟩ := hR.2.1
  have hw : ∀ p, p < S.1 1 → nw (S.2.1 1) p < 2 ^ 19 := fun p hp => by have := hcb.nw (by omega) hp; omega
  unfold fX8_feed fX9_feed
  rw [hasP hm c1, cls, isP hm r1, cls]
  by_cases q : isp p (S.1 1)
  · obtain ⟨a, ha, rfl⟩ := isp_of q
    rw [if_pos q, if_neg one0, if_neg one0, loaves8 hm ha c1 c5' (fun p hp => by have := hw p hp; omega), cls, feed9 hm ha r1 r5 hw]
    exact ⟨_, rfl, rfl⟩
  · rw [if_neg q, if_pos rfl, if_pos rfl]
    exact ⟨_, rfl, rfl⟩
