/-! ===== rows of stones: numbers ===== -/
def sm : Nat → (Nat → Nat) → Nat
  | 0, _ => 0
  | n + 1, g => sm n g + g n
theorem sm_congr {n : Nat} {f g : Nat → Nat} (h : ∀ j, j < n → f j = g j) : sm n f = sm n g := by
  induction n with
  | zero => rfl
  | succ n ih =>
    show sm n f + f n = sm n g + g n
    rw [ih (fun j hj => h j (by omega)), h n (by omega)]
theorem sm_zero {n : Nat} {f : Nat → Nat} (h : ∀ j, j < n → f j = 0) : sm n f = 0 := by
  induction n with
  | zero => rfl
  | succ n ih =>
    show sm n f + f n = 0
    rw [ih (fun j hj => h j (by omega)), h n (by omega)]
theorem sm_tail {a b : Nat} {f : Nat → Nat} (hab : a ≤ b) (h : ∀ j, a ≤ j → j < b → f j = 0) : sm b f = sm a f := by
  obtain ⟨d, rfl⟩ : ∃ d, b = a + d := ⟨b - a, by omega⟩
  clear hab
  induction d with
  | zero => rfl
  | succ d ih =>
    show sm (a + d) f + f (a + d) = sm a f
    rw [ih (fun j h1 h2 => h j h1 (by omega)), h (a + d) (by omega) (by omega), Nat.add_zero]
theorem sm_add (n : Nat) (f g : Nat → Nat) : sm n (fun j => f j + g j) = sm n f + sm n g := by
  induction n with
  | zero => rfl
  | succ n ih =>
    show sm n (fun j => f j + g j) + (f n + g n) = sm n f + f n + (sm n g + g n)
    rw [ih]
    omega
theorem sm_swap (n m : Nat) (h : Nat → Nat → Nat) : sm n (fun c => sm m (fun d => h c d)) = sm m (fun d => sm n (fun c => h c d)) := by
  induction m with
  | zero => exact sm_zero (fun _ _ => rfl)
  | succ m ih =>
    show sm n (fun c => sm m (fun d => h c d) + h c m) = sm m (fun d => sm n (fun c => h c d)) + sm n (fun c => h c m)
    rw [sm_add, ih]
theorem sm_ten (M : Nat) (g : Nat → Nat) : sm (10 * M) g = sm M (fun c => sm 10 (fun d => g (d + 10 * c))) := by
  induction M with
  | zero => rfl
  | succ M ih =>
    rw [show 10 * (M + 1) = 10 * M + 1 + 1 + 1 + 1 + 1 + 1 + 1 + 1 + 1 + 1 by omega]
    show sm (10 * M) g + g (10 * M) + g (10 * M + 1) + g (10 * M + 2) + g (10 * M + 3) + g (10 * M + 4) + g (10 * M + 5) + g (10 * M + 6) + g (10 * M + 7) + g (10 * M + 8) + g (10 * M + 9) = sm M (fun c => sm 10 (fun d => g (d + 10 * c))) + (0 + g (0 + 10 * M) + g (1 + 10 * M) + g (2 + 10 * M) + g (3 + 10 * M) + g (4 + 10 * M) + g (5 + 10 * M) + g (6 + 10 * M) + g (7 + 10 * M) + g (8 + 10 * M) + g (9 + 10 * M))
    rw [ih, Nat.add_comm 0 (10 * M), Nat.add_comm 1, Nat.add_comm 2, Nat.add_comm 3, Nat.add_comm 4, Nat.add_comm 5, Nat.add_comm 6, Nat.add_comm 7, Nat.add_comm 8, Nat.add_comm 9]
    show _ = _ + (0 + g (10 * M) + _ + _ + _ + _ + _ + _ + _ + _ + _)
    omega
theorem sm_split (M : Nat) (g : Nat → Nat) : sm (10 * M) g = sm 10 (fun d => sm M (fun c => g (d + 10 * c))) := by rw [sm_ten, sm_swap]
theorem sm_len (P : Nat → Bool) (n : Nat) : ((List.range n).filter P).length = sm n (fun c => if P c = true then 1 else 0) := by
  induction n with
  | zero => rfl
  | succ n ih =>
    rw [List.range_succ, List.filter_append, List.length_append, ih]
    show _ = sm n (fun c => if P c = true then 1 else 0) + (if P n = true then 1 else 0)
    congr 1
    by_cases h : P n = true
    · rw [if_pos h, List.filter_cons_of_pos h]; rfl
    · rw [if_neg h, List.filter_cons_of_neg h]; rfl
theorem sm_pos {n : Nat} {P : Nat → Bool} : sm n (fun c => if P c = true then 1 else 0) ≠ 0 ↔ ∃ c, c < n ∧ P c = true := by
  induction n with
  | zero => exact ⟨fun h => absurd rfl h, fun ⟨c, h, _⟩ => absurd h (by omega)⟩
  | succ n ih =>
    show sm n (fun c => if P c = true then 1 else 0) + (if P n = true then 1 else 0) ≠ 0 ↔ _
    by_cases h : P n = true
    · rw [if_pos h]
      exact ⟨fun _ => ⟨n, by omega, h⟩, fun _ => by omega⟩
    · rw [if_neg h, Nat.add_zero, ih]
      exact ⟨fun ⟨c, h1, h2⟩ => ⟨c, by omega, h2⟩, fun ⟨c, h1, h2⟩ => ⟨c, by
        by_cases e : c = n
        · rw [e] at h2; exact absurd h2 h
        · omega, h2⟩⟩
theorem sm_le {n : Nat} {P : Nat → Bool} : sm n (fun c => if P c = true then 1 else 0) ≤ n := by
  induction n with
  | zero => exact Nat.le_refl _
  | succ n ih =>
    show sm n (fun c => if P c = true then 1 else 0) + (if P n = true then 1 else 0) ≤ _
    by_cases h : P n = true
    · rw [if_pos h]; omega
    · rw [if_neg h]; omega
/-! digits -/
theorem dg_le (c k : Nat) : dg c k ≤ 9 := by
  unfold dg
  omega
theorem dg_lo {i k pre c : Nat} (h : k < i) : dg (pre + 10 ^ i * c) k = dg pre k := by
  unfold dg
  obtain ⟨d, rfl⟩ : ∃ d, i = k + 1 + d := ⟨i - k - 1, by omega⟩
  have : 10 ^ (k + 1 + d) * c = 10 ^ k * (10 * (10 ^ d * c)) := by rw [Nat.pow_add, Nat.pow_succ, Nat.mul_assoc, Nat.mul_assoc]
  rw [this, Nat.add_mul_div_left _ _ (Nat.pos_of_neZero _), Nat.add_mul_mod_self_left]
theorem dg_hi {i k pre c : Nat} (hp : pre < 10 ^ i) (h : i ≤ k) : dg (pre + 10 ^ i * c) k = dg c (k - i) := by
  unfold dg
  obtain ⟨d, rfl⟩ : ∃ d, k = i + d := ⟨k - i, by omega⟩
  rw [Nat.pow_add, ← Nat.div_div_eq_div_mul, Nat.add_mul_div_left _ _ (Nat.pos_of_neZero _), Nat.div_eq_of_lt hp, Nat.zero_add, show i + d - i = d by omega]
theorem dg_d0 {d c : Nat} (h : d < 10) : dg (d + 10 * c) 0 = d := by
  unfold dg
  omega
theorem dg_ds (d c j : Nat) (h : d < 10) : dg (d + 10 * c) (j + 1) = dg c j := by
  have := dg_hi (i := 1) (k := j + 1) (pre := d) (c := c) (by omega) (by omega)
  rw [Nat.pow_one] at this
  exact this
/-- what the first ones of a search have together -/
def tp (set code : Nat) : Nat → Nat
  | 0 => 0
  | k + 1 => tp set code k + set / 2 ^ k % 2 * dg code k
theorem tp_tog (set code : Nat) : tp set code 5 = togN set code := by
  unfold togN
  show 0 + set / 2 ^ 0 % 2 * dg code 0 + set / 2 ^ 1 % 2 * dg code 1 + set / 2 ^ 2 % 2 * dg code 2 + set / 2 ^ 3 % 2 * dg code 3 + set / 2 ^ 4 % 2 * dg code 4 = _
  rw [Nat.zero_add, show set / 2 ^ 0 = set from Nat.div_one set]
theorem tp_congr {set c c' : Nat} : ∀ n, (∀ k, k < n → set / 2 ^ k % 2 ≠ 0 → dg c' k = dg c k) → tp set c' n = tp set c n := by
  intro n
  induction n with
  | zero => intro _; rfl
  | succ n ih =>
    intro h
    show tp set c' n + _ = tp set c n + _
    rw [ih (fun k hk => h k (by omega))]
    by_cases e : set / 2 ^ n % 2 = 0
    · rw [e, Nat.zero_mul, Nat.zero_mul]
    · rw [h n (by omega) e]
theorem tp_mono (set c : Nat) (a d : Nat) : tp set c a ≤ tp set c (a + d) := by
  induction d with
  | zero => exact Nat.le_refl _
  | succ d ih => exact Nat.le_trans ih (Nat.le_add_right _ _)
/-- how many of a search are still behind -/
def rb (set i : Nat) : Nat := ones9 (set / 2 ^ i)
theorem rb_s : ∀ set, set < 32 → ∀ i, i < 5 → rb set i = set / 2 ^ i % 2 + rb set (i + 1) := by decide +kernel
theorem rb_5 : ∀ set, set < 32 → rb set 5 = 0 := by decide +kernel
theorem rb_bc : ∀ set, set < 32 → ∀ i, i < 5 → bcv (nI set >>> ((nI i + (1 : Int32)) &&& 31)) = nI (rb set (i + 1)) := by decide +kernel
theorem rb_le : ∀ set, set < 32 → ∀ i, i < 6 → rb set i ≤ 5 := by decide +kernel
theorem rb_0 {set i : Nat} (h : set / 2 ^ i = 0) : rb set i = 0 := by
  unfold rb
  rw [h]
  decide
theorem tp_rest {set : Nat} (h : set < 32) (c : Nat) : ∀ e i, i + e = 5 → tp set c 5 ≤ tp set c i + 9 * rb set i := by
  intro e
  induction e with
  | zero =>
    intro i hi
    obtain rfl : i = 5 := by omega
    omega
  | succ e ih =>
    intro i hi
    have h1 := ih (i + 1) (by omega)
    have h2 := rb_s set h i (by omega)
    have h3 := dg_le c i
    have h4 : tp set c (i + 1) = tp set c i + set / 2 ^ i % 2 * dg c i := rfl
    have h5 : set / 2 ^ i % 2 * dg c i ≤ set / 2 ^ i % 2 * 9 := Nat.mul_le_mul_left _ h3
    omega
theorem fitN_iff {S : AS} {c : Nat} : fitN S c = true ↔ ∀ s, s < S.1 7 → tp (S.2.1 7 s) c 5 = S.2.1 8 s := by
  unfold fitN
  rw [List.all_eq_true]
  constructor
  · intro h s hs
    have := h s (List.mem_range.mpr hs)
    rw [tp_tog]
    exact of_decide_eq_true this
  · intro h s hs
    have := h s (List.mem_range.mp hs)
    rw [tp_tog] at this
    exact decide_eq_true this
def cnt5 (S : AS) (i pre : Nat) : Nat := sm (10 ^ (5 - i)) (fun c => if fitN S (pre + 10 ^ i * c) = true then 1 else 0)
theorem pw5 {i : Nat} (h : i < 5) : 10 ^ (5 - i) = 10 * 10 ^ (5 - (i + 1)) := by
  rw [show 5 - i = (5 - (i + 1)) + 1 by omega, Nat.pow_succ, Nat.mul_comm]
theorem code_s (i pre d c : Nat) : pre + 10 ^ i * (d + 10 * c) = (pre + 10 ^ i * d) + 10 ^ (i + 1) * c := by
  rw [Nat.mul_add, Nat.pow_succ, Nat.mul_assoc, Nat.add_assoc]
theorem cnt5_s (S : AS) {i : Nat} (h : i < 5) (pre : Nat) : cnt5 S i pre = sm 10 (fun d => cnt5 S (i + 1) (pre + 10 ^ i * d)) := by
  unfold cnt5
  rw [pw5 h, sm_split]
  refine sm_congr fun d _ => sm_congr fun c _ => ?_
  rw [code_s]
/-- the codes that fit and begin so -/
def Qc (S : AS) (i pre c : Nat) : Prop := c < 100000 ∧ c % 10 ^ i = pre ∧ fitN S c = true
theorem code_lt {i pre c : Nat} (h5 : i ≤ 5) (hp : pre < 10 ^ i) (hc : c < 10 ^ (5 - i)) : pre + 10 ^ i * c < 100000 := by
  have h1 : 10 ^ i * (c + 1) ≤ 10 ^ i * 10 ^ (5 - i) := Nat.mul_le_mul_left _ hc
  rw [← Nat.pow_add, show i + (5 - i) = 5 by omega, Nat.mul_add, Nat.mul_one] at h1
  have : (10 : Nat) ^ 5 = 100000 := rfl
  omega
theorem Qc_of {S : AS} {i pre c : Nat} (h5 : i ≤ 5) (hp : pre < 10 ^ i) (hc : c < 10 ^ (5 - i)) (hf : fitN S (pre + 10 ^ i * c) = true) : Qc S i pre (pre + 10 ^ i * c) := ⟨code_lt h5 hp hc, by rw [Nat.add_mul_mod_self_left, Nat.mod_eq_of_lt hp], hf⟩
theorem Qc_ex {S : AS} {i pre c : Nat} (h5 : i ≤ 5) (h : Qc S i pre c) : ∃ e, e < 10 ^ (5 - i) ∧ c = pre + 10 ^ i * e := by
  refine ⟨c / 10 ^ i, ?_, ?_⟩
  · apply Nat.div_lt_of_lt_mul
    rw [← Nat.pow_add, show i + (5 - i) = 5 by omega]
    exact h.1
  · rw [← h.2.1, Nat.mod_add_div]
theorem cnt5_pos {S : AS} {i pre : Nat} (h5 : i ≤ 5) (hp : pre < 10 ^ i) : cnt5 S i pre ≠ 0 ↔ ∃ c, Qc S i pre c := by
  unfold cnt5
  rw [show (fun c => if fitN S (pre + 10 ^ i * c) = true then 1 else 0) = (fun c => if (fun c => fitN S (pre + 10 ^ i * c)) c = true then 1 else 0) from rfl, sm_pos]
  constructor
  · rintro ⟨c, h1, h2⟩
    exact ⟨_, Qc_of h5 hp h1 h2⟩
  · rintro ⟨c, h⟩
    obtain ⟨e, e1, e2⟩ := Qc_ex h5 h
    exact ⟨e, e1, by rw [← e2]; exact h.2.2⟩
theorem cnt5_le (S : AS) (i pre : Nat) : cnt5 S i pre ≤ 10 ^ (5 - i) := by
  unfold cnt5
  exact sm_le (P := fun c => fitN S (pre + 10 ^ i * c))
/-! the least and the most -/
def lowR (Q : Nat → Prop) (k : Nat) (a b : Int) : Prop := b ≤ a ∧ (b = a ∨ ∃ c, Q c ∧ (dg c k : Int) = b) ∧ ∀ c, Q c → b ≤ (dg c k : Int)
def highR (Q : Nat → Prop) (k : Nat) (a b : Int) : Prop := a ≤ b ∧ (b = a ∨ ∃ c, Q c ∧ (dg c k : Int) = b) ∧ ∀ c, Q c → (dg c k : Int) ≤ b
theorem lowR.none {Q : Nat → Prop} (h : ∀ c, ¬ Q c) (k : Nat) (a : Int) : lowR Q k a a := ⟨Int.le_refl _, Or.inl rfl, fun c hc => absurd hc (h c)⟩
theorem highR.none {Q : Nat → Prop} (h : ∀ c, ¬ Q c) (k : Nat) (a : Int) : highR Q k a a := ⟨Int.le_refl _, Or.inl rfl, fun c hc => absurd hc (h c)⟩
theorem lowR.join {Q R T : Nat → Prop} {k : Nat} {a b c : Int} (h : lowR Q k a b) (g : lowR R k b c) (hT : ∀ x, T x ↔ Q x ∨ R x) : lowR T k a c := by
  refine ⟨Int.le_trans g.1 h.1, ?_, fun x hx => ?_⟩
  · rcases g.2.1 with e | ⟨x, x1, x2⟩
    · rcases h.2.1 with e' | ⟨x, x1, x2⟩
      · exact Or.inl (e.trans e')
      · exact Or.inr ⟨x, (hT x).mpr (Or.inl x1), by rw [e]; exact x2⟩
    · exact Or.inr ⟨x, (hT x).mpr (Or.inr x1), x2⟩
  · rcases (hT x).mp hx with t | t
    · exact Int.le_trans g.1 (h.2.2 x t)
    · exact g.2.2 x t
theorem highR.join {Q R T : Nat → Prop} {k : Nat} {a b c : Int} (h : highR Q k a b) (g : highR R k b c) (hT : ∀ x, T x ↔ Q x ∨ R x) : highR T k a c := by
  refine ⟨Int.le_trans h.1 g.1, ?_, fun x hx => ?_⟩
  · rcases g.2.1 with e | ⟨x, x1, x2⟩
    · rcases h.2.1 with e' | ⟨x, x1, x2⟩
      · exact Or.inl (e.trans e')
      · exact Or.inr ⟨x, (hT x).mpr (Or.inl x1), by rw [e]; exact x2⟩
    · exact Or.inr ⟨x, (hT x).mpr (Or.inr x1), x2⟩
  · rcases (hT x).mp hx with t | t
    · exact Int.le_trans (h.2.2 x t) g.1
    · exact g.2.2 x t
theorem lowR.is {S : AS} {k : Nat} {a b : Int} (h : lowR (Qc S 0 0) k a b) (ha : 9 ≤ a) (he : ∃ c, Qc S 0 0 c) : ∃ v : Nat, b = (v : Int) ∧ v ≤ 9 ∧ isLeast S k v := by
  have key : ∃ c, Qc S 0 0 c ∧ (dg c k : Int) = b := by
    rcases h.2.1 with e | q
    · obtain ⟨c, hc⟩ := he
      have h1 := h.2.2 c hc
      have h2 := dg_le c k
      exact ⟨c, hc, by omega⟩
    · exact q
  obtain ⟨c, hc, e⟩ := key
  refine ⟨dg c k, e.symm, dg_le c k, ⟨c, hc.1, hc.2.2, rfl⟩, fun x h1 h2 => ?_⟩
  have := h.2.2 x ⟨h1, by rw [Nat.pow_zero, Nat.mod_one], h2⟩
  omega
theorem highR.is {S : AS} {k : Nat} {a b : Int} (h : highR (Qc S 0 0) k a b) (ha : a ≤ 0) (he : ∃ c, Qc S 0 0 c) : ∃ v : Nat, b = (v : Int) ∧ v ≤ 9 ∧ isMost S k v := by
  have key : ∃ c, Qc S 0 0 c ∧ (dg c k : Int) = b := by
    rcases h.2.1 with e | q
    · obtain ⟨c, hc⟩ := he
      have h1 := h.2.2 c hc
      exact ⟨c, hc, by omega⟩
    · exact q
  obtain ⟨c, hc, e⟩ := key
  refine ⟨dg c k, e.symm, dg_le c k, ⟨c, hc.1, hc.2.2, rfl⟩, fun x h1 h2 => ?_⟩
  have := h.2.2 x ⟨h1, by rw [Nat.pow_zero, Nat.mod_one], h2⟩
  omega
theorem isLeast.u {S : AS} {k v w : Nat} (h : isLeast S k v) (g : isLeast S k w) : v = w := by
  obtain ⟨⟨c, c1, c2, c3⟩, h2⟩ := h
  obtain ⟨⟨d, d1, d2, d3⟩, g2⟩ := g
  have := h2 d d1 d2
  have := g2 c c1 c2
  omega
theorem isMost.u {S : AS} {k v w : Nat} (h : isMost S k v) (g : isMost S k w) : v = w := by
  obtain ⟨⟨c, c1, c2, c3⟩, h2⟩ := h
  obtain ⟨⟨d, d1, d2, d3⟩, g2⟩ := g
  have := h2 d d1 d2
  have := g2 c c1 c2
  omega
theorem rowsN_eq (S : AS) : rowsN S = cnt5 S 0 0 := by
  unfold rowsN cnt5
  rw [sm_len]
  refine sm_congr fun c _ => ?_
  rw [Nat.pow_zero, Nat.one_mul, Nat.zero_add]
