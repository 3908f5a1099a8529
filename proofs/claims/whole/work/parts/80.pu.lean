/-! ===== the line: numbers ===== -/
theorem sm_head (n : Nat) (f : Nat → Nat) : sm (n + 1) f = f 0 + sm n (fun j => f (j + 1)) := by
  induction n with
  | zero => show 0 + f 0 = f 0 + 0; omega
  | succ n ih =>
    show sm (n + 1) f + f (n + 1) = f 0 + (sm n (fun j => f (j + 1)) + f (n + 1))
    rw [ih]
    omega
theorem sm_ne {n : Nat} {f : Nat → Nat} (h : sm n f ≠ 0) : ∃ j, j < n ∧ f j ≠ 0 := by
  induction n with
  | zero => exact absurd rfl h
  | succ n ih =>
    by_cases e : f n = 0
    · have h' : sm n f ≠ 0 := fun t => h (by show sm n f + f n = 0; omega)
      obtain ⟨j, h1, h2⟩ := ih h'
      exact ⟨j, by omega, h2⟩
    · exact ⟨n, by omega, e⟩
theorem sm_four (M : Nat) (g : Nat → Nat) : sm (4 * M) g = sm M (fun c => sm 4 (fun d => g (d + 4 * c))) := by
  induction M with
  | zero => rfl
  | succ M ih =>
    rw [show 4 * (M + 1) = 4 * M + 1 + 1 + 1 + 1 by omega]
    show sm (4 * M) g + g (4 * M) + g (4 * M + 1) + g (4 * M + 2) + g (4 * M + 3) = sm M (fun c => sm 4 (fun d => g (d + 4 * c))) + (0 + g (0 + 4 * M) + g (1 + 4 * M) + g (2 + 4 * M) + g (3 + 4 * M))
    rw [ih, Nat.add_comm 0 (4 * M), Nat.add_comm 1, Nat.add_comm 2, Nat.add_comm 3]
    show _ = _ + (0 + g (4 * M) + _ + _ + _)
    omega
theorem sm_pick (n o x : Nat) (f : Nat → Nat) : sm n (fun a => if a + o = x then f a else 0) = if o ≤ x ∧ x - o < n then f (x - o) else 0 := by
  induction n with
  | zero => rw [if_neg (by omega)]; rfl
  | succ n ih =>
    show sm n (fun a => if a + o = x then f a else 0) + (if n + o = x then f n else 0) = _
    rw [ih]
    by_cases e : n + o = x
    · rw [if_pos e, if_neg (by omega), if_pos (by omega), show x - o = n by omega, Nat.zero_add]
    · rw [if_neg e, Nat.add_zero]
      by_cases q : o ≤ x ∧ x - o < n
      · rw [if_pos q, if_pos (by omega)]
      · rw [if_neg q, if_neg (by omega)]
/-- one more of all meals, from 0 to 3 loaves -/
def dv (s : Nat) (V : Nat → Nat) (x : Nat) : Nat := sm 4 (fun k => if s * k ≤ x then V (x - s * k) else 0)
def DD : Nat → (Nat → Nat) → Nat → Nat
  | 0, V => V
  | i + 1, V => dv (13 ^ i) (DD i V)
def Sup (b0 b1 b2 : Nat) (V : Nat → Nat) : Prop := ∀ x, V x ≠ 0 → x < 2197 ∧ x % 13 ≤ b0 ∧ x / 13 % 13 ≤ b1 ∧ x / 169 % 13 ≤ b2
theorem dv_ne {s : Nat} {V : Nat → Nat} {x : Nat} (h : dv s V x ≠ 0) : ∃ k, k < 4 ∧ s * k ≤ x ∧ V (x - s * k) ≠ 0 := by
  obtain ⟨k, h1, h2⟩ := sm_ne h
  by_cases q : s * k ≤ x
  · rw [if_pos q] at h2
    exact ⟨k, h1, q, h2⟩
  · rw [if_neg q] at h2
    exact absurd rfl h2
theorem Sup_0 {b0 b1 b2 : Nat} {V : Nat → Nat} (h : Sup b0 b1 b2 V) (hb : b0 ≤ 9) : Sup (b0 + 3) b1 b2 (dv (13 ^ 0) V) := by
  intro x hx
  obtain ⟨k, h1, h2, h3⟩ := dv_ne hx
  have := h _ h3
  have e : 13 ^ 0 * k = k := Nat.one_mul k
  rw [e] at this h2
  omega
theorem Sup_1 {b0 b1 b2 : Nat} {V : Nat → Nat} (h : Sup b0 b1 b2 V) (hb : b1 ≤ 9) : Sup b0 (b1 + 3) b2 (dv (13 ^ 1) V) := by
  intro x hx
  obtain ⟨k, h1, h2, h3⟩ := dv_ne hx
  have := h _ h3
  have e : 13 ^ 1 * k = 13 * k := rfl
  rw [e] at this h2
  omega
theorem Sup_2 {b0 b1 b2 : Nat} {V : Nat → Nat} (h : Sup b0 b1 b2 V) (hb : b2 ≤ 9) : Sup b0 b1 (b2 + 3) (dv (13 ^ 2) V) := by
  intro x hx
  obtain ⟨k, h1, h2, h3⟩ := dv_ne hx
  have := h _ h3
  have e : 13 ^ 2 * k = 169 * k := rfl
  rw [e] at this h2
  omega
theorem dv_le {s B : Nat} {V : Nat → Nat} (h : ∀ x, V x ≤ B) (x : Nat) : dv s V x ≤ 4 * B := by
  unfold dv
  have t : ∀ k, (if s * k ≤ x then V (x - s * k) else 0) ≤ B := fun k => by
    by_cases q : s * k ≤ x
    · rw [if_pos q]; exact h _
    · rw [if_neg q]; omega
  have t0 := t 0
  have t1 := t 1
  have t2 := t 2
  have t3 := t 3
  show 0 + (if s * 0 ≤ x then V (x - s * 0) else 0) + (if s * 1 ≤ x then V (x - s * 1) else 0) + (if s * 2 ≤ x then V (x - s * 2) else 0) + (if s * 3 ≤ x then V (x - s * 3) else 0) ≤ _
  omega
theorem DD_le {B : Nat} {V : Nat → Nat} (h : ∀ x, V x ≤ B) : ∀ i x, DD i V x ≤ 4 ^ i * B := by
  intro i
  induction i with
  | zero => intro x; rw [Nat.pow_zero, Nat.one_mul]; exact h x
  | succ i ih =>
    intro x
    have := dv_le (s := 13 ^ i) ih x
    rw [Nat.pow_succ, Nat.mul_comm (4 ^ i) 4, Nat.mul_assoc]
    exact this
/-- what the class's loop makes of one place -/
def eat (s : Nat) (V : Nat → Nat) (x : Nat) : Nat := V x + sm (min 3 (x / s % 13)) (fun j => V (x - s * (1 + j)))
theorem eat_eq {s e : Nat} (hs : 1 ≤ s) {V : Nat → Nat} (h9 : ∀ x, V x ≠ 0 → x / s % 13 ≤ 9) (hmax : ∀ x, V x ≠ 0 → x + 3 * s < e) (x : Nat) : (if s ≤ x ∧ x < e then eat s V x else V x) = dv s V x := by
  show _ = 0 + (if s * 0 ≤ x then V (x - s * 0) else 0) + (if s * 1 ≤ x then V (x - s * 1) else 0) + (if s * 2 ≤ x then V (x - s * 2) else 0) + (if s * 3 ≤ x then V (x - s * 3) else 0)
  rw [if_pos (show s * 0 ≤ x by omega), show x - s * 0 = x by omega]
  by_cases h1 : s ≤ x
  · by_cases h2 : x < e
    · rw [if_pos ⟨h1, h2⟩]
      have no : ∀ k, x / s % 13 < k → k < 4 → (if s * k ≤ x then V (x - s * k) else 0) = 0 := by
        intro k a b
        by_cases q : s * k ≤ x
        · rw [if_pos q]
          by_cases w : V (x - s * k) = 0
          · exact w
          · have g := h9 _ w
            rw [Nat.sub_mul_div] at g
            have : k ≤ x / s := (Nat.le_div_iff_mul_le hs).mpr (by rw [Nat.mul_comm]; exact q)
            omega
        · rw [if_neg q]
      have ys : ∀ k, k ≤ x / s % 13 → (if s * k ≤ x then V (x - s * k) else 0) = V (x - s * k) := by
        intro k a
        have k1 : k ≤ x / s := Nat.le_trans a (Nat.mod_le _ _)
        have : s * k ≤ x := by
          have := (Nat.le_div_iff_mul_le hs).mp k1
          rw [Nat.mul_comm] at this
          exact this
        rw [if_pos this]
      unfold eat
      obtain q | q | q | q : x / s % 13 = 0 ∨ x / s % 13 = 1 ∨ x / s % 13 = 2 ∨ 3 ≤ x / s % 13 := by omega
      · rw [q, no 1 (by omega) (by decide), no 2 (by omega) (by decide), no 3 (by omega) (by decide)]
        show V x + 0 = _
        omega
      · rw [q, ys 1 (by omega), no 2 (by omega) (by decide), no 3 (by omega) (by decide)]
        show V x + (0 + V (x - s * 1)) = _
        omega
      · rw [q, ys 1 (by omega), ys 2 (by omega), no 3 (by omega) (by decide)]
        show V x + (0 + V (x - s * 1) + V (x - s * 2)) = _
        omega
      · rw [show min 3 (x / s % 13) = 3 by omega, ys 1 (by omega), ys 2 (by omega), ys 3 (by omega)]
        show V x + (0 + V (x - s * 1) + V (x - s * 2) + V (x - s * 3)) = _
        omega
    · rw [if_neg (by omega)]
      have z : ∀ k, k < 4 → (if s * k ≤ x then V (x - s * k) else 0) = 0 := by
        intro k b
        by_cases q : s * k ≤ x
        · rw [if_pos q]
          by_cases w : V (x - s * k) = 0
          · exact w
          · have g := hmax _ w
            have : s * k ≤ s * 3 := Nat.mul_le_mul_left _ (by omega)
            omega
        · rw [if_neg q]
      rw [z 1 (by decide), z 2 (by decide), z 3 (by decide)]
      omega
  · rw [if_neg (by omega), if_neg (show ¬ s * 1 ≤ x by omega), if_neg (show ¬ s * 2 ≤ x by omega), if_neg (show ¬ s * 3 ≤ x by omega)]
    omega
def off (k : Nat) : Nat := k % 4 + 13 * (k / 4 % 4) + 169 * (k / 16)
theorem mo_1 (V : Nat → Nat) (x : Nat) : sm 64 (fun k => if k < 4 ^ 1 ∧ off k ≤ x then V (x - off k) else 0) = DD 1 V x := by
  rw [sm_tail (a := 4) (by decide) (fun j a b => if_neg (fun t => by have : j < 4 := t.1; omega))]
  refine sm_congr fun k hk => ?_
  have e : off k = 13 ^ 0 * k := by unfold off; rw [Nat.pow_zero, Nat.one_mul]; omega
  rw [e]
  show _ = if 13 ^ 0 * k ≤ x then V (x - 13 ^ 0 * k) else 0
  by_cases q : 13 ^ 0 * k ≤ x
  · rw [if_pos ⟨hk, q⟩, if_pos q]
  · rw [if_neg (fun t => q t.2), if_neg q]
theorem mo_in (V : Nat → Nat) (x c : Nat) : sm 4 (fun d => if d + 13 * c ≤ x then V (x - (d + 13 * c)) else 0) = if 13 ^ 1 * c ≤ x then DD 1 V (x - 13 ^ 1 * c) else 0 := by
  have e : 13 ^ 1 * c = 13 * c := rfl
  rw [e]
  by_cases q : 13 * c ≤ x
  · rw [if_pos q]
    refine sm_congr fun d hd => ?_
    have e0 : 13 ^ 0 * d = d := Nat.one_mul d
    show _ = if 13 ^ 0 * d ≤ x - 13 * c then V (x - 13 * c - 13 ^ 0 * d) else 0
    rw [e0]
    by_cases w : d + 13 * c ≤ x
    · rw [if_pos w, if_pos (by omega), show x - (d + 13 * c) = x - 13 * c - d by omega]
    · rw [if_neg w, if_neg (by omega)]
  · rw [if_neg q]
    exact sm_zero fun d _ => if_neg (by omega)
theorem mo_2 (V : Nat → Nat) (x : Nat) : sm 64 (fun k => if k < 4 ^ 2 ∧ off k ≤ x then V (x - off k) else 0) = DD 2 V x := by
  rw [sm_tail (a := 16) (by decide) (fun j a b => if_neg (fun t => by have : j < 16 := t.1; omega)), show (16 : Nat) = 4 * 4 from rfl, sm_four]
  show _ = sm 4 (fun c => if 13 ^ 1 * c ≤ x then DD 1 V (x - 13 ^ 1 * c) else 0)
  refine sm_congr fun c hc => ?_
  rw [← mo_in]
  refine sm_congr fun d hd => ?_
  have e : off (d + 4 * c) = d + 13 * c := by unfold off; omega
  rw [e]
  have l : d + 4 * c < 4 ^ 2 := by show d + 4 * c < 16; omega
  by_cases w : d + 13 * c ≤ x
  · rw [if_pos ⟨l, w⟩, if_pos w]
  · rw [if_neg (fun t => w t.2), if_neg w]
theorem mo_3 (V : Nat → Nat) (x : Nat) : sm 64 (fun k => if k < 4 ^ 3 ∧ off k ≤ x then V (x - off k) else 0) = DD 3 V x := by
  rw [show (64 : Nat) = 4 * (4 * 4) from rfl, sm_four, sm_four]
  show _ = sm 4 (fun e => if 13 ^ 2 * e ≤ x then DD 2 V (x - 13 ^ 2 * e) else 0)
  refine sm_congr fun e he => ?_
  have e2 : 13 ^ 2 * e = 169 * e := rfl
  rw [e2]
  by_cases q : 169 * e ≤ x
  · rw [if_pos q]
    show _ = sm 4 (fun c => if 13 ^ 1 * c ≤ x - 169 * e then DD 1 V (x - 169 * e - 13 ^ 1 * c) else 0)
    refine sm_congr fun c hc => ?_
    rw [← mo_in]
    refine sm_congr fun d hd => ?_
    have eo : off (d + 4 * (c + 4 * e)) = d + 13 * c + 169 * e := by unfold off; omega
    rw [eo]
    have l : d + 4 * (c + 4 * e) < 4 ^ 3 := by show d + 4 * (c + 4 * e) < 64; omega
    by_cases w : d + 13 * c ≤ x - 169 * e
    · rw [if_pos ⟨l, by omega⟩, if_pos w, show x - (d + 13 * c + 169 * e) = x - 169 * e - (d + 13 * c) by omega]
    · rw [if_neg (fun t => by have := t.2; omega), if_neg w]
  · rw [if_neg q]
    refine sm_zero fun c hc => sm_zero fun d hd => ?_
    have eo : off (d + 4 * (c + 4 * e)) = d + 13 * c + 169 * e := by unfold off; omega
    rw [eo]
    exact if_neg (fun t => by have := t.2; omega)
theorem mo_eq (V : Nat → Nat) (x m : Nat) (h : m = 1 ∨ m = 2 ∨ m = 3) : sm 64 (fun k => if k < 4 ^ m ∧ off k ≤ x then V (x - off k) else 0) = DD m V x := by
  obtain rfl | rfl | rfl := h
  · exact mo_1 V x
  · exact mo_2 V x
  · exact mo_3 V x
/-! who is the lightest with what all ate -/
def wtA (c : Nat → Nat) (x i : Nat) : Nat := nw c i + 8 * (x / 13 ^ i % 13)
def rul (c : Nat → Nat) (m x r : Nat) : Bool := decide (lb (wtA c x) (fun _ => true) m = some r)
/-- the ways behind t months -/
def Wn (c rl : Nat → Nat) (m : Nat) : Nat → Nat → Nat
  | 0 => fun x => if x = 0 then 1 else 0
  | t + 1 => fun x => if rul c m x (rl t) = true then DD m (Wn c rl m t) x else 0
def bt (m t i : Nat) : Nat := if i < m then 3 * t else 0
theorem Sup.mono {a0 a1 a2 b0 b1 b2 : Nat} {V : Nat → Nat} (h : Sup a0 a1 a2 V) (h0 : a0 ≤ b0) (h1 : a1 ≤ b1) (h2 : a2 ≤ b2) : Sup b0 b1 b2 V := fun x hx => by
  have := h x hx
  omega
/-- the bounds while the first i have eaten in month t -/
def be (m t i j : Nat) : Nat := if j < m then (if j < i then 3 * t + 3 else 3 * t) else 0
theorem Sup_DD {m t : Nat} {V : Nat → Nat} (ht : t ≤ 3) (hm : m ≤ 3) (h : Sup (be m t 0 0) (be m t 0 1) (be m t 0 2) V) : ∀ i, i ≤ m → Sup (be m t i 0) (be m t i 1) (be m t i 2) (DD i V) := by
  intro i
  induction i with
  | zero => intro _; exact h
  | succ i ih =>
    intro hi
    have g := ih (by omega)
    obtain rfl | rfl | rfl : i = 0 ∨ i = 1 ∨ i = 2 := by omega
    · refine (Sup_0 g ?_).mono ?_ ?_ ?_
      all_goals unfold be
      all_goals (repeat' split)
      all_goals omega
    · refine (Sup_1 g ?_).mono ?_ ?_ ?_
      all_goals unfold be
      all_goals (repeat' split)
      all_goals omega
    · refine (Sup_2 g ?_).mono ?_ ?_ ?_
      all_goals unfold be
      all_goals (repeat' split)
      all_goals omega
theorem Sup_W (c rl : Nat → Nat) {m : Nat} (hm : m ≤ 3) : ∀ t, t ≤ 4 → Sup (be m t 0 0) (be m t 0 1) (be m t 0 2) (Wn c rl m t) := by
  intro t
  induction t with
  | zero =>
    intro _ x hx
    by_cases e : x = 0
    · subst e
      omega
    · exact absurd (if_neg e) hx
  | succ t ih =>
    intro ht
    have g := Sup_DD (by omega) hm (ih (by omega)) m (Nat.le_refl m)
    intro x hx
    have hx' : DD m (Wn c rl m t) x ≠ 0 := fun q => hx (by
      show (if rul c m x (rl t) = true then DD m (Wn c rl m t) x else 0) = 0
      rw [q]
      split <;> rfl)
    have := g x hx'
    refine ⟨this.1, Nat.le_trans this.2.1 ?_, Nat.le_trans this.2.2.1 ?_, Nat.le_trans this.2.2.2 ?_⟩
    all_goals unfold be
    all_goals (repeat' split)
    all_goals omega
theorem W_le (c rl : Nat → Nat) {m : Nat} (hm : m ≤ 3) : ∀ t x, Wn c rl m t x ≤ 64 ^ t := by
  intro t
  induction t with
  | zero =>
    intro x
    show (if x = 0 then 1 else 0) ≤ 1
    split <;> omega
  | succ t ih =>
    intro x
    show (if rul c m x (rl t) = true then DD m (Wn c rl m t) x else 0) ≤ _
    have h1 := DD_le ih m x
    have h2 : 4 ^ m * 64 ^ t ≤ 64 * 64 ^ t := Nat.mul_le_mul_right _ (show 4 ^ m ≤ 4 ^ 3 from Nat.pow_le_pow_right (by decide) hm)
    have h3 : 64 ^ (t + 1) = 64 * 64 ^ t := by rw [Nat.pow_succ, Nat.mul_comm]
    split <;> omega
