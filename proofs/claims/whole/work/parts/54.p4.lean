/-! ===== an act: the row grows, cells change ===== -/
def updN (c : Nat → Nat) (q v : Nat) : Nat → Nat := fun j => if j = q then v else c j
theorem updN_eq (c : Nat → Nat) (q v : Nat) : updN c q v q = v := if_pos rfl
theorem updN_ne (c : Nat → Nat) {q j : Nat} (v : Nat) (h : j ≠ q) : updN c q v j = c j := if_neg h
theorem holds.put {f : Nat → Int32} {m : Nat} {c : Nat → Nat} (h : holds f m c) (q v : Nat) : holds (upd f q (nI v)) m (updN c q v) := by
  intro j hj
  by_cases e : j = q
  · subst e; rw [up1, if_pos rfl, updN_eq]
  · rw [up1, if_neg e, updN_ne _ _ e, h j hj]
theorem act_C {S : AS} {z z1 z2 : Mem} {c' : Nat → Nat} (hC : C S z) (h1 : Ca (pushA S) z1) (o1 : Out [3, 12] z z1) (o2 : Out [11] z1 z2) (hc : holds (z2.1 11) (S.1 1) c') : C (sT (pushA S) 1 c') z2 := by
  have o : Out [3, 11, 12] z z2 := (o1.more (by decide)).tr (o2.more (by decide))
  obtain ⟨a1, a2, a3, a4, a5, a6, a7, a8⟩ := hC
  refine ⟨a1.go (o 1 (by decide)).1 (o 10 (by decide)).1, ⟨?_, ?_, ?_, ?_, hc⟩, h1.go (o2 3 (by decide)).1 (o2 12 (by decide)).1, a4.go (o 4 (by decide)).1 (o 13 (by decide)).1,
    a5.go (o 5 (by decide)).1 (o 14 (by decide)).1 (o 15 (by decide)).1 (o 16 (by decide)).1, a6.go (o 6 (by decide)).1 (o 17 (by decide)).1 (o 18 (by decide)).1 (o 19 (by decide)).1 (o 20 (by decide)).1, a7.go (o 7 (by decide)).1 (o 21 (by decide)).1, a8.go (o 8 (by decide)).2⟩
  · rw [(o 2 (by decide)).1]; exact a2.1
  · rw [(o 2 (by decide)).1]; exact a2.2.1
  · rw [(o 2 (by decide)).1]; exact a2.2.2.1
  · rw [(o 0 (by decide)).1]; exact a2.2.2.2.1
theorem act_R {S : AS} {y y1 y2 : Mem} {c' : Nat → Nat} (hR : Rr S y) (h1 : Ra (pushA S) y1) (o1 : Out [25, 29] y y1) (k1 : ∀ k, k ≠ 14 → k ≠ 15 → y1.1 25 k = y.1 25 k) (l1 : y1.2 = y.2) (o2 : Out [27] y1 y2) (hc : holds (y2.1 27) (S.1 1) c') : Rr (sT (pushA S) 1 c') y2 := by
  have o : Out [25, 27, 29] y y2 := (o1.more (by decide)).tr (o2.more (by decide))
  have k2 : ∀ k, k ≠ 14 → k ≠ 15 → y2.1 25 k = y.1 25 k := fun k a b => by rw [(o2 25 (by decide)).1]; exact k1 k a b
  obtain ⟨a1, a2, a3, a4, a5, a6, a7, a8⟩ := hR
  refine ⟨a1.go (k2 11 (by decide) (by decide)) (o 28 (by decide)).1, ⟨?_, ?_, ?_, ?_, hc⟩, h1.go (by rw [(o2 25 (by decide)).1]) (by rw [(o2 25 (by decide)).1]) (o2 29 (by decide)).1, a4.go (o 41 (by decide)).1 (o 42 (by decide)).1,
    a5.go (k2 17 (by decide) (by decide)) (o 30 (by decide)).1 (o 31 (by decide)).1 (o 32 (by decide)).1, a6.go (k2 21 (by decide) (by decide)) (o 33 (by decide)).1 (o 34 (by decide)).1, a7.go (k2 26 (by decide) (by decide)) (o 37 (by decide)).1, a8.go (by rw [(o2 25 (by decide)).2, l1])⟩
  · rw [k2 6 (by decide) (by decide)]; exact a2.1
  · rw [k2 8 (by decide) (by decide)]; exact a2.2.1
  · rw [k2 9 (by decide) (by decide)]; exact a2.2.2.1
  · rw [k2 7 (by decide) (by decide)]; exact a2.2.2.2.1
theorem act_G {k : Nat} {S : AS} {c' : Nat → Nat} (hG : G k S) (hc : CB (k + 1) (S.1 1) c') : G (k + 1) (sT (pushA S) 1 c') := by
  have hcb := hG.2.1.2.2.2.2
  have hga := hG.2.2.1
  obtain ⟨h1, h2, h3, h4, h5, h6, h7⟩ := hG.up
  refine ⟨h1, ⟨h2.1, h2.2.1, h2.2.2.1, h2.2.2.2.1, hc⟩, ⟨?_, ?_⟩, h4, h5, h6, h7⟩
  · show (if S.1 5 = 16 then 16 else S.1 5 + 1) ≤ 16
    have := hga.1
    split <;> omega
  · intro i hi
    have hi : i < (if S.1 5 = 16 then 16 else S.1 5 + 1) := hi
    have key : ∃ c, CB (k + 1) (S.1 1) c ∧ ∀ j, j < 26 → hs S (26 * i + j) = c j := by
      unfold hs
      by_cases e : S.1 5 = 16
      · rw [if_pos e] at hi
        by_cases e2 : i = 15
        · refine ⟨S.2.1 1, hcb.up, fun j hj => ?_⟩
          rw [if_pos e, if_pos (by omega), show (26 * i + j) % 26 = j by omega]
        · refine ⟨_, (hga.2 (i + 1) (by omega)).up, fun j hj => ?_⟩
          rw [if_pos e, if_neg (by omega), show 26 * i + j + 26 = 26 * (i + 1) + j by omega]
      · rw [if_neg e] at hi
        by_cases e2 : i = S.1 5
        · refine ⟨S.2.1 1, hcb.up, fun j hj => ?_⟩
          rw [if_neg e, if_pos (by omega), show (26 * i + j) % 26 = j by omega]
        · refine ⟨_, (hga.2 i (by omega)).up, fun j hj => ?_⟩
          rw [if_neg e, if_neg (by omega)]
    obtain ⟨c, hc1, hc2⟩ := key
    have hm := h2.1
    show CB (k + 1) (S.1 1) (fun j => hs S (26 * i + j))
    refine ⟨fun p hp => ?_, ?_⟩
    · show 1 ≤ hs S (26 * i + 5 * p) ∧ hs S (26 * i + 5 * p) ≤ 1000 + 72 * (k + 1) ∧ hs S (26 * i + (5 * p + 1)) ≤ 9 ∧ hs S (26 * i + (5 * p + 2)) ≤ 9 ∧ hs S (26 * i + (5 * p + 3)) ≤ 90 ∧ hs S (26 * i + (5 * p + 4)) ≤ k + 1
      rw [hc2 _ (by omega), hc2 _ (by omega), hc2 _ (by omega), hc2 _ (by omega), hc2 _ (by omega)]
      exact hc1.1 p hp
    · show hs S (26 * i + 25) ≤ k + 1
      rw [hc2 _ (by omega)]
      exact hc1.2
/-- an act of both sides: the rows grow, then the cells become c' -/
theorem ok_act {α : Type} {f g : Mem → Option (α × Mem)} {k : Nat} {S : AS} {z : Mem} (hG : G k S) (hC : C S z) (r : α) (c' : Nat → Nat) (hc : CB (k + 1) (S.1 1) c')
    (hf : ∀ z1, fX0_remember z = some ((), z1) → Out [3, 12] z z1 → ∃ z2, f z = some (r, z2) ∧ Out [11] z1 z2 ∧ holds (z2.1 11) (S.1 1) c')
    (hg : ∀ y, Rr S y → ∀ y1, fX9_keepAct y = some ((), y1) → Out [25, 29] y y1 → (∀ k, k ≠ 14 → k ≠ 15 → y1.1 25 k = y.1 25 k) → ∃ y2, g y = some (r, y2) ∧ Out [27] y1 y2 ∧ holds (y2.1 27) (S.1 1) c') :
    ∃ (r : α) (z1 : Mem) (S' : AS), f z = some (r, z1) ∧ C S' z1 ∧ AgM z z1 ∧ G (k + 1) S' ∧ ∀ y, Rr S y → ∃ y1, g y = some (r, y1) ∧ Rr S' y1 ∧ AgC y y1 := by
  obtain ⟨z1, a1, a2, a3⟩ := remember8 hG.2.1.1 hG.2.2.1.1 hC.2.1 hC.2.2.1
  obtain ⟨z2, b1, b2, b3⟩ := hf z1 a1 a3
  refine ⟨r, z2, sT (pushA S) 1 c', b1, act_C hC a2 a3 b2 b3, (a3.M (by decide)).tr (b2.M (by decide)), act_G hG hc, fun y hR => ?_⟩
  obtain ⟨y1, d1, d2, d3, d4, d5⟩ := keepAct9 hG.2.1.1 hG.2.2.1.1 hR.2.1 hR.2.2.1
  obtain ⟨y2, e1, e2, e3⟩ := hg y hR y1 d1 d3 d4
  exact ⟨y2, e1, act_R hR d2 d3 d4 d5 e2 e3, (d3.C (by decide)).tr (e2.C (by decide))⟩
/-- one ounce at least -/
def mx (t : Int32) : Int32 := if (1 : Int32) < t then t else 1
theorem left9 (t : Int32) (z : Mem) : fX9_left t z = some (mx t, z) := by
  unfold fX9_left mx
  by_cases h : (1 : Int32) < t
  · rw [if_pos h, if_pos (by rw [le32]; have := lt32.mp h; omega)]
  · rw [if_neg h]
    by_cases h2 : (1 : Int32) ≤ t
    · rw [if_pos h2]
      have e : t = 1 := by
        apply Int32.toInt_inj.mp
        have a := le32.mp h2
        have b : ¬ (1 : Int32).toInt < t.toInt := fun q => h (lt32.mpr q)
        omega
      rw [e]
    · rw [if_neg h2]
theorem addsub (x y : Int32) : x + (y - x) = y := by
  rw [Int32.add_comm, Int32.sub_add_cancel]
theorem gain2 {p : Nat} (h : p < 5) (o : Int32) (z : Mem) : fX2_gain_2 (nI p) o z = some (mx (z.1 11 (5 * p) + o), sI z 11 (5 * p) (mx (z.1 11 (5 * p) + o))) := by
  unfold fX2_gain_2
  rw [show fX2_get_2 (nI p) (0 : Int32) z = _ from get2 (p := p) (c := 0) (by omega) z, cls, lts, show ∀ v, fX2_add_2 (nI p) (0 : Int32) v z = _ from fun v => add2 (p := p) (c := 0) (by omega) v z, cls, Nat.add_zero, addsub,
    show ∀ v, fX2_get_2 (nI p) (0 : Int32) (sI z 11 (5 * p) v) = _ from fun v => get2 (p := p) (c := 0) (by omega) _, cls, Nat.add_zero, sI1, if_pos rfl, up1, if_pos rfl]
  rfl
theorem gain9 {p : Nat} (h : p < 5) (o : Int32) (z : Mem) : fX2_gain_9 (nI p) o z = some (mx (z.1 24 (5 * p) + o), sI z 24 (5 * p) (mx (z.1 24 (5 * p) + o))) := by
  unfold fX2_gain_9
  rw [show fX2_get_9 (nI p) (0 : Int32) z = _ from get9 (p := p) (c := 0) (by omega) z, cls, lts, show ∀ v, fX2_add_9 (nI p) (0 : Int32) v z = _ from fun v => add9 (p := p) (c := 0) (by omega) v z, cls, Nat.add_zero, addsub,
    show ∀ v, fX2_get_9 (nI p) (0 : Int32) (sI z 24 (5 * p) v) = _ from fun v => get9 (p := p) (c := 0) (by omega) _, cls, Nat.add_zero, sI1, if_pos rfl, up1, if_pos rfl]
  rfl
theorem mx_nI {w : Nat} (h1 : 1 ≤ w) (hw : w < 2 ^ 31) : mx (nI w) = nI w := by
  unfold mx
  by_cases h : w = 1
  · subst h; rfl
  · rw [if_pos (show (1 : Int32) < nI w from nI_lt (a := 1) (by omega) hw)]
theorem mx_sub {a b : Nat} (ha : a < 2 ^ 30) (hb : b < 2 ^ 30) : mx (nI a - nI b) = nI (max 1 (a - b)) := by
  by_cases h : b ≤ a
  · rw [pk_sub h]
    by_cases h2 : a - b = 0
    · rw [h2]; rfl
    · rw [mx_nI (by omega) (by omega), Nat.max_eq_right (by omega)]
  · unfold mx
    have := pk_sub_toInt ha hb
    rw [if_neg (fun q => by have q : (1 : Int) < (nI a - nI b).toInt := lt32.mp q; omega), show max 1 (a - b) = 1 by omega]
    rfl
theorem nsub (a b : Int32) : a + (-b) = a - b := (Int32.sub_eq_add_neg a b).symm
