/-! ===== acts: a row kept, taken back ===== -/
theorem rem16 (n : Nat) (h : n < 2 ^ 31) : nI n - nI n / (16 : Int32) * (16 : Int32) = nI (n % 16) := pk_rem (d := 16) h (by decide) (by decide)
theorem n16 : ¬ (16 : Int32) = 0 := by decide
theorem n26 : ¬ (26 : Int32) = 0 := by decide
theorem ix26 {m j : Nat} (hm : m ≤ 5) (h : ix m j) : j < 26 := by rcases h with h | h <;> omega
theorem copyTo12 {s : Nat} (hs : s < 16) (z : Mem) : fX2_copyTo_2_12 (nI s) z = some ((), sR z 12 (va_cpy (z.1 11) (z.1 12) 0 (26 * s) 26)) := by
  unfold fX2_copyTo_2_12
  have e : nI s * (26 : Int32) = nI (26 * s) := by rw [show (26 : Int32) = nI 26 from rfl, pk_mul, Nat.mul_comm]
  have e2 : (26 * s) < 2 ^ 31 := by omega
  rw [if_neg (nI_pos (by omega)), nzs n26, if_neg (show ¬ ((416 : Int32) / (26 : Int32)) ≤ nI s from nI_ge (a := s) (b := 16) hs (by decide)), e]
  unfold ac
  rw [clamp (n := 26 * s) e2, if_pos ⟨by decide, nI_pos e2, by decide, by decide, by show 26 * s + 26 ≤ 416; omega⟩, lts]
  rfl
theorem copyFrom12 {s : Nat} (hs : s < 16) (z : Mem) : fX2_copyFrom_2_12 (nI s) z = some ((), sR z 11 (va_cpy (z.1 12) (z.1 11) (26 * s) 0 26)) := by
  unfold fX2_copyFrom_2_12
  have e : nI s * (26 : Int32) = nI (26 * s) := by rw [show (26 : Int32) = nI 26 from rfl, pk_mul, Nat.mul_comm]
  have e2 : (26 * s) < 2 ^ 31 := by omega
  rw [if_neg (nI_pos (by omega)), nzs n26, if_neg (show ¬ ((416 : Int32) / (26 : Int32)) ≤ nI s from nI_ge (a := s) (b := 16) hs (by decide)), e]
  unfold ac
  rw [clamp (n := 26 * s) e2, if_pos ⟨nI_pos e2, by decide, by decide, by show 26 * s + 26 ≤ 416; omega, by decide⟩, lts]
  rfl
theorem copyTo13 {s : Nat} (hs : s < 2) (z : Mem) : fX2_copyTo_2_13 (nI s) z = some ((), sR z 13 (va_cpy (z.1 11) (z.1 13) 0 (26 * s) 26)) := by
  unfold fX2_copyTo_2_13
  have e : nI s * (26 : Int32) = nI (26 * s) := by rw [show (26 : Int32) = nI 26 from rfl, pk_mul, Nat.mul_comm]
  have e2 : (26 * s) < 2 ^ 31 := by omega
  rw [if_neg (nI_pos (by omega)), nzs n26, if_neg (show ¬ ((52 : Int32) / (26 : Int32)) ≤ nI s from nI_ge (a := s) (b := 2) hs (by decide)), e]
  unfold ac
  rw [clamp (n := 26 * s) e2, if_pos ⟨by decide, nI_pos e2, by decide, by decide, by show 26 * s + 26 ≤ 52; omega⟩, lts]
  rfl
theorem copyFrom13 {s : Nat} (hs : s < 2) (z : Mem) : fX2_copyFrom_2_13 (nI s) z = some ((), sR z 11 (va_cpy (z.1 13) (z.1 11) (26 * s) 0 26)) := by
  unfold fX2_copyFrom_2_13
  have e : nI s * (26 : Int32) = nI (26 * s) := by rw [show (26 : Int32) = nI 26 from rfl, pk_mul, Nat.mul_comm]
  have e2 : (26 * s) < 2 ^ 31 := by omega
  rw [if_neg (nI_pos (by omega)), nzs n26, if_neg (show ¬ ((52 : Int32) / (26 : Int32)) ≤ nI s from nI_ge (a := s) (b := 2) hs (by decide)), e]
  unfold ac
  rw [clamp (n := 26 * s) e2, if_pos ⟨nI_pos e2, by decide, by decide, by show 26 * s + 26 ≤ 52; omega, by decide⟩, lts]
  rfl
/-- the rows behind one more act -/
def hs (S : AS) : Nat → Nat := fun q => if S.1 5 = 16 then (if q / 26 = 15 then S.2.1 1 (q % 26) else S.2.1 2 (q + 26)) else (if q / 26 = S.1 5 then S.2.1 1 (q % 26) else S.2.1 2 q)
def pushA (S : AS) : AS := sT (sS S 5 (if S.1 5 = 16 then 16 else S.1 5 + 1)) 2 (hs S)
theorem remember8 {S : AS} {z : Mem} (hm : S.1 1 ≤ 5) (ha : S.1 5 ≤ 16) (hf : Cf S z) (h : Ca S z) : ∃ z1, fX0_remember z = some ((), z1) ∧ Ca (pushA S) z1 ∧ Out [3, 12] z z1 := by
  obtain ⟨f, hf16, h1, h2, h3⟩ := h
  by_cases e : S.1 5 = 16
  · refine ⟨sI (sR (sI (sI z 3 1 (nI ((f + 1) % 16))) 3 2 (nI 15)) 12 (va_cpy (z.1 11) (z.1 12) 0 (26 * (((f + 1) % 16 + 15) % 16)) 26)) 3 2 (nI 16), ?_, ⟨(f + 1) % 16, by omega, rfl, ?_, ?_⟩, ?_⟩
    · unfold fX0_remember
      have e1 : nI f + (1 : Int32) = nI (f + 1) := nI_1 f
      have e2 : (sI z 3 1 (nI ((f + 1) % 16))).1 3 2 = nI 16 := by show z.1 3 2 = _; rw [h2, e]
      have e3 : nI 16 - (1 : Int32) = nI 15 := rfl
      have e4 : (sI (sI z 3 1 (nI ((f + 1) % 16))) 3 2 (nI 15)).1 3 1 = nI ((f + 1) % 16) := rfl
      have e5 : (sI (sI z 3 1 (nI ((f + 1) % 16))) 3 2 (nI 15)).1 3 2 = nI 15 := rfl
      rw [jns]
      dsimp only
      rw [h2, e, if_pos (show nI 16 = (16 : Int32) from rfl), nzs n16, lts, h1, e1, rem16 _ (by omega), lts, lts, e2, e3, lts, nzs n16, e4, e5, nI_add, rem16 _ (by omega), copyTo12 (by omega), cls, lts, lts]
      rfl
    · show nI 16 = nI (if S.1 5 = 16 then 16 else S.1 5 + 1)
      rw [if_pos e]
    · intro i hi j hj
      have hj26 := ix26 hm hj
      have hi : i < (if S.1 5 = 16 then 16 else S.1 5 + 1) := hi
      rw [if_pos e] at hi
      show va_cpy (z.1 11) (z.1 12) 0 (26 * (((f + 1) % 16 + 15) % 16)) 26 (26 * (((f + 1) % 16 + i) % 16) + j) = nI (hs S (26 * i + j))
      unfold hs
      rw [if_pos e]
      by_cases hi15 : i = 15
      · subst hi15
        rw [pk_cpy_in (by omega) (by omega), if_pos (by omega), show (26 * 15 + j) % 26 = j by omega, ← hf.2.2.2.2 j hj]
        exact congrArg (z.1 11) (by omega)
      · rw [pk_cpy_out (by omega), if_neg (by omega), ← show 26 * (i + 1) + j = 26 * i + j + 26 by omega, ← h3 (i + 1) (by omega) j hj]
        exact congrArg (z.1 12) (by omega)
    · exact (((Out.sI [3, 12] z _ _ (by decide)).tr (Out.sI _ _ _ _ (by decide))).tr (Out.sR _ _ _ (by decide))).tr (Out.sI _ _ _ _ (by decide))
  · refine ⟨sI (sR z 12 (va_cpy (z.1 11) (z.1 12) 0 (26 * ((f + S.1 5) % 16)) 26)) 3 2 (nI (S.1 5 + 1)), ?_, ⟨f, hf16, h1, ?_, ?_⟩, ?_⟩
    · unfold fX0_remember
      have e2 : ∀ g, (sR z 12 g).1 3 2 = nI (S.1 5) := fun g => h2
      have hne : ¬ nI (S.1 5) = (16 : Int32) := fun q => e ((nI_eq (by omega) (by decide)).mp q)
      rw [jns]
      dsimp only
      rw [h2, if_neg hne, nzs n16, h1, nI_add, rem16 _ (by omega), copyTo12 (by omega), cls, lts, lts, e2, show nI (S.1 5) + (1 : Int32) = nI (S.1 5 + 1) from nI_1 _]
    · show nI (S.1 5 + 1) = nI (if S.1 5 = 16 then 16 else S.1 5 + 1)
      rw [if_neg e]
    · intro i hi j hj
      have hj26 := ix26 hm hj
      have hi : i < (if S.1 5 = 16 then 16 else S.1 5 + 1) := hi
      rw [if_neg e] at hi
      show va_cpy (z.1 11) (z.1 12) 0 (26 * ((f + S.1 5) % 16)) 26 (26 * ((f + i) % 16) + j) = nI (hs S (26 * i + j))
      unfold hs
      rw [if_neg e]
      by_cases hia : i = S.1 5
      · rw [hia, pk_cpy_in (by omega) (by omega), if_pos (by omega), show (26 * S.1 5 + j) % 26 = j by omega, ← hf.2.2.2.2 j hj]
        exact congrArg (z.1 11) (by omega)
      · rw [pk_cpy_out (by omega), if_neg (by omega), ← h3 i (by omega) j hj]
    · exact (Out.sR [3, 12] z _ (by decide)).tr (Out.sI _ _ _ _ (by decide))
/-- a loop that copies a stretch -/
theorem copy_loop {β : Type} (F : Nat → Int32 → Mem → Option β) (K : Int32 → Mem → Option β) (N src dst D X : Nat) (P : Mem → Prop) (hne : src ≠ dst)
    (hs : ∀ n i z, P z → i < N → F (n + 1) (nI i) z = F n (nI (i + 1)) (sI z dst (D + i) (z.1 src (X + i)))) (he : ∀ n z, P z → F (n + 1) (nI N) z = K (nI N) z) (hP : ∀ z i v, P z → P (sI z dst (D + i) v)) :
    ∀ (d i : Nat) (z : Mem) (n : Nat), i + d = N → d < n → P z → ∃ z1, F n (nI i) z = K (nI N) z1 ∧ P z1 ∧ (∀ j, i ≤ j → j < N → z1.1 dst (D + j) = z.1 src (X + j)) ∧ (∀ q, (q < D + i ∨ D + N ≤ q) → z1.1 dst q = z.1 dst q) ∧ Out [dst] z z1 := by
  intro d
  induction d with
  | zero =>
    intro i z n h1 h2 hp
    obtain ⟨n, rfl⟩ : ∃ k, n = k + 1 := ⟨n - 1, by omega⟩
    have : i = N := by omega
    subst this
    exact ⟨z, he n z hp, hp, fun j h3 h4 => absurd h3 (by omega), fun q _ => rfl, Out.rf _ z⟩
  | succ d ih =>
    intro i z n h1 h2 hp
    obtain ⟨n, rfl⟩ : ∃ k, n = k + 1 := ⟨n - 1, by omega⟩
    rw [hs n i z hp (by omega)]
    obtain ⟨z1, g1, g2, g3, g4, g5⟩ := ih (i + 1) (sI z dst (D + i) (z.1 src (X + i))) n (by omega) (by omega) (hP z i _ hp)
    refine ⟨z1, g1, g2, fun j h3 h4 => ?_, fun q hq => ?_, (Out.sI [dst] z _ _ (by simp)).tr g5⟩
    · by_cases e : j = i
      · subst e
        rw [g4 _ (by omega), sI1, if_pos rfl, up1, if_pos rfl]
      · rw [g3 j (by omega) h4, sI1, if_neg hne]
    · rw [g4 q (by omega), sI1, if_pos rfl, up1, if_neg (by omega)]
theorem fu26 : 26 < FU := by unfold FU; decide
theorem ge26 {i : Nat} (h : i < 26) : ¬ (26 : Int32) ≤ nI i := nI_ge (b := 26) h (by decide)
theorem m26 (a b : Nat) : (26 : Int32) * nI a + nI b = nI (26 * a + b) := by rw [show (26 : Int32) = nI 26 from rfl, pk_mul, nI_add]
theorem keepAct9 {S : AS} {y : Mem} (hm : S.1 1 ≤ 5) (ha : S.1 5 ≤ 16) (hf : Rf S y) (h : Ra S y) : ∃ y1, fX9_keepAct y = some ((), y1) ∧ Ra (pushA S) y1 ∧ Out [25, 29] y y1 ∧ (∀ k, k ≠ 14 → k ≠ 15 → y1.1 25 k = y.1 25 k) ∧ y1.2 = y.2 := by
  obtain ⟨f, hf16, h1, h2, h3⟩ := h
  unfold fX9_keepAct
  generalize hK : (fun (x1_3 : Int32) (z_2 : Mem) => nz (16 : Int32) (lt ((((z_2.1 25 15) + (1 : Int32)) - ((z_2.1 25 15) + (1 : Int32)) / (16 : Int32) * (16 : Int32)) : Int32) (fun y_5 => lt (sI z_2 25 15 y_5) (fun z_6 => (if (16 : Int32) ≤ (z_6.1 25 14) then lt (sI z_6 25 14 (16 : Int32)) (fun z_8 => (some ((), z_8) : Option (Unit × Mem))) else lt (((z_6.1 25 14) + (1 : Int32)) : Int32) (fun y_9 => lt (sI z_6 25 14 y_9) (fun z_10 => some ((), z_10)))))))) = K
  obtain ⟨z1, g1, g2, g3, g4, g5⟩ := copy_loop (fX9_keepAct_L2 K) K 26 27 29 (26 * f) 0 (fun z => z.1 25 15 = nI f ∧ z.1 25 14 = nI (S.1 5) ∧ z.2 = y.2) (by decide)
    (fun n i z hp hi => by
      rw [fX9_keepAct_L2_s, if_neg (ge26 hi), rgs hi (by decide), lts, hp.1, m26, rgs (by omega) (by decide), lts, lts, clamp (by omega), clamp (by omega), show nI i + (1 : Int32) = nI (i + 1) from nI_1 i, Nat.zero_add])
    (fun n z hp => by rw [fX9_keepAct_L2_s, if_pos (show (26 : Int32) ≤ nI 26 by decide)])
    (fun z i v hp => hp) 26 0 y FU rfl fu26 ⟨h1, h2, rfl⟩
  have g1' : fX9_keepAct_L2 K FU 0 y = K (nI 26) z1 := g1
  rw [g1']
  have e14 : ∀ v, (sI z1 25 15 v).1 25 14 = nI (S.1 5) := fun v => g2.2.1
  refine ⟨sI (sI z1 25 15 (nI ((f + 1) % 16))) 25 14 (nI (if S.1 5 = 16 then 16 else S.1 5 + 1)), ?_, ⟨(f + 1) % 16, by omega, rfl, rfl, ?_⟩, ?_, ?_, ?_⟩
  · rw [← hK]
    dsimp only
    rw [nzs n16, g2.1, show nI f + (1 : Int32) = nI (f + 1) from nI_1 f, rem16 _ (by omega), lts, lts, e14]
    by_cases e : S.1 5 = 16
    · rw [e, if_pos (show (16 : Int32) ≤ nI 16 by decide), lts, if_pos rfl]
      rfl
    · rw [if_neg (show ¬ (16 : Int32) ≤ nI (S.1 5) from nI_ge (b := 16) (by omega) (by decide)), lts, lts, if_neg e, show nI (S.1 5) + (1 : Int32) = nI (S.1 5 + 1) from nI_1 _]
  · intro i hi j hj
    have hj26 := ix26 hm hj
    have hi : i < (if S.1 5 = 16 then 16 else S.1 5 + 1) := hi
    show z1.1 29 (26 * (((f + 1) % 16 + 16 - (if S.1 5 = 16 then 16 else S.1 5 + 1) + i) % 16) + j) = nI (hs S (26 * i + j))
    unfold hs
    by_cases e : S.1 5 = 16
    · rw [if_pos e] at hi ⊢
      rw [if_pos e]
      by_cases hi15 : i = 15
      · subst hi15
        rw [if_pos (by omega), show (26 * 15 + j) % 26 = j by omega, ← hf.2.2.2.2 j hj, show 26 * (((f + 1) % 16 + 16 - 16 + 15) % 16) + j = 26 * f + j by omega, g3 j (by omega) hj26, Nat.zero_add]
      · rw [if_neg (by omega), ← show 26 * (i + 1) + j = 26 * i + j + 26 by omega, ← h3 (i + 1) (by omega) j hj, g4 _ (by omega)]
        exact congrArg (y.1 29) (by omega)
    · rw [if_neg e] at hi ⊢
      rw [if_neg e]
      by_cases hia : i = S.1 5
      · rw [hia, if_pos (by omega), show (26 * S.1 5 + j) % 26 = j by omega, ← hf.2.2.2.2 j hj, show 26 * (((f + 1) % 16 + 16 - (S.1 5 + 1) + S.1 5) % 16) + j = 26 * f + j by omega, g3 j (by omega) hj26, Nat.zero_add]
      · rw [if_neg (by omega), ← h3 i (by omega) j hj, g4 _ (by omega)]
        exact congrArg (y.1 29) (by omega)
  · exact ((g5.more (Q' := [25, 29]) (by decide)).tr (Out.sI _ _ _ _ (by decide))).tr (Out.sI _ _ _ _ (by decide))
  · intro k h14 h15
    show upd (upd (z1.1 25) 15 _) 14 _ k = _
    rw [up1, if_neg h14, up1, if_neg h15, (g5 25 (by decide)).1]
  · exact g2.2.2
