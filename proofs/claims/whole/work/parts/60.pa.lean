/-! ===== the crown ===== -/
def cnt (P : Nat → Bool) : Nat → Nat
  | 0 => 0
  | i + 1 => cnt P i + (if P i = true then 1 else 0)
theorem cnt0 (P : Nat → Bool) (i : Nat) : cnt P i = 0 ↔ ∀ o, o < i → P o = false := by
  induction i with
  | zero => exact ⟨fun _ o h => absurd h (by omega), fun _ => rfl⟩
  | succ i ih =>
    unfold cnt
    constructor
    · intro h o ho
      by_cases e : P i = true
      · rw [if_pos e] at h; omega
      · by_cases q : o = i
        · subst q; simpa using e
        · exact ih.mp (by omega) o (by omega)
    · intro h
      rw [ih.mpr (fun o ho => h o (by omega)), if_neg (by rw [h i (by omega)]; decide)]
theorem cnt_cg {P Q : Nat → Bool} {i : Nat} (h : ∀ o, o < i → P o = Q o) : cnt P i = cnt Q i := by
  induction i with
  | zero => rfl
  | succ i ih => unfold cnt; rw [ih (fun o ho => h o (by omega)), h i (by omega)]
theorem cnt_split (P : Nat → Bool) {q i : Nat} (hq : q < i) : cnt P i = (if P q = true then 1 else 0) + cnt (fun o => P o && !decide (o = q)) i := by
  induction i with
  | zero => omega
  | succ i ih =>
    unfold cnt
    by_cases e : q = i
    · subst e
      have : cnt (fun o => P o && !decide (o = q)) q = cnt P q := cnt_cg (fun o ho => by simp [Nat.ne_of_lt ho])
      rw [this]
      simp
      omega
    · rw [ih (by omega)]
      have : (P i && !decide (i = q)) = P i := by simp [Ne.symm e]
      rw [this]
      omega
/-- the lightest of those that count; of like ones the least -/
def lb (wt : Nat → Nat) (e : Nat → Bool) : Nat → Option Nat
  | 0 => none
  | i + 1 => if e i = true then (match lb wt e i with
    | none => some i
    | some q => if wt q ≤ wt i then some q else some i) else lb wt e i
def Lt (wt : Nat → Nat) (o p : Nat) : Prop := wt o < wt p ∨ (wt o = wt p ∧ o < p)
theorem lb_none (wt : Nat → Nat) (e : Nat → Bool) (i : Nat) (h : lb wt e i = none) : ∀ o, o < i → e o = false := by
  induction i with
  | zero => intro o ho; omega
  | succ i ih =>
    unfold lb at h
    by_cases q : e i = true
    · rw [if_pos q] at h
      split at h
      · cases h
      · split at h <;> cases h
    · rw [if_neg q] at h
      intro o ho
      by_cases r : o = i
      · subst r; simpa using q
      · exact ih h o (by omega)
theorem lb_some (wt : Nat → Nat) (e : Nat → Bool) (i q : Nat) (h : lb wt e i = some q) : q < i ∧ e q = true ∧ ∀ o, o < i → e o = true → o = q ∨ Lt wt q o := by
  induction i generalizing q with
  | zero => cases h
  | succ i ih =>
    unfold lb at h
    by_cases c : e i = true
    · rw [if_pos c] at h
      cases hl : lb wt e i with
      | none =>
        rw [hl] at h
        cases h
        refine ⟨by omega, c, fun o ho he => ?_⟩
        by_cases r : o = i
        · exact Or.inl r
        · have := lb_none wt e i hl o (by omega)
          rw [this] at he
          cases he
      | some u =>
        rw [hl] at h
        obtain ⟨a1, a2, a3⟩ := ih u hl
        dsimp only at h
        by_cases l : wt u ≤ wt i
        · rw [if_pos l] at h
          cases h
          refine ⟨by omega, a2, fun o ho he => ?_⟩
          by_cases r : o = i
          · subst r
            refine Or.inr ?_
            unfold Lt
            omega
          · exact a3 o (by omega) he
        · rw [if_neg l] at h
          cases h
          refine ⟨by omega, c, fun o ho he => ?_⟩
          by_cases r : o = i
          · exact Or.inl r
          · refine Or.inr ?_
            rcases a3 o (by omega) he with rfl | g
            · unfold Lt; omega
            · unfold Lt at *; omega
    · rw [if_neg c] at h
      obtain ⟨a1, a2, a3⟩ := ih q h
      refine ⟨by omega, a2, fun o ho he => ?_⟩
      by_cases r : o = i
      · subst r; exact absurd he c
      · exact a3 o (by omega) he
theorem lb_iff (wt : Nat → Nat) (e : Nat → Bool) (m p : Nat) (hp : p < m) : lb wt e m = some p ↔ (e p = true ∧ ∀ o, o < m → o ≠ p → e o = true → ¬ Lt wt o p) := by
  constructor
  · intro h
    obtain ⟨a1, a2, a3⟩ := lb_some wt e m p h
    refine ⟨a2, fun o ho hne he => ?_⟩
    rcases a3 o ho he with r | r
    · exact absurd r hne
    · unfold Lt at *; omega
  · intro ⟨h1, h2⟩
    cases hl : lb wt e m with
    | none => rw [lb_none wt e m hl p hp] at h1; cases h1
    | some q =>
      obtain ⟨a1, a2, a3⟩ := lb_some wt e m q hl
      rcases a3 p hp h1 with r | r
      · rw [r]
      · by_cases z : q = p
        · rw [z]
        · exact absurd r (h2 q a1 z a2)
/-- how an answer is told -/
def enc : Option Nat → Int32
  | none => -9
  | some q => nI q
theorem enc_ne {q : Nat} (h : q < 2 ^ 31) : ¬ nI q = (-9 : Int32) := fun e => by
  have := congrArg Int32.toInt e
  rw [nI_toInt h] at this
  have h9 : (-9 : Int32).toInt = -9 := by decide
  omega
/-- the first that is so -/
def fnd (Q : Nat → Bool) : Nat → Nat → Option Nat
  | 0, _ => none
  | d + 1, i => if Q i = true then some i else fnd Q d (i + 1)
theorem fnd_some (Q : Nat → Bool) : ∀ d i q, fnd Q d i = some q → i ≤ q ∧ q < i + d ∧ Q q = true := by
  intro d
  induction d with
  | zero => intro i q h; cases h
  | succ d ih =>
    intro i q h
    unfold fnd at h
    by_cases e : Q i = true
    · rw [if_pos e] at h; cases h; exact ⟨by omega, by omega, e⟩
    · rw [if_neg e] at h
      have := ih (i + 1) q h
      exact ⟨by omega, by omega, this.2.2⟩
theorem fnd_none (Q : Nat → Bool) : ∀ d i, fnd Q d i = none → ∀ q, i ≤ q → q < i + d → Q q = false := by
  intro d
  induction d with
  | zero => intro i h q h1 h2; omega
  | succ d ih =>
    intro i h q h1 h2
    unfold fnd at h
    by_cases e : Q i = true
    · rw [if_pos e] at h; cases h
    · rw [if_neg e] at h
      by_cases r : q = i
      · subst r; simpa using e
      · exact ih (i + 1) h q (by omega) (by omega)
theorem fnd_eq {Q : Nat → Bool} {m : Nat} {R : Option Nat} (hR : ∀ q, R = some q → q < m) (h : ∀ p, p < m → (Q p = true ↔ R = some p)) : fnd Q m 0 = R := by
  cases hf : fnd Q m 0 with
  | none =>
    cases R with
    | none => rfl
    | some q =>
      have hq := hR q rfl
      have a := fnd_none Q m 0 hf q (by omega) (by omega)
      have b := (h q hq).mpr rfl
      rw [a] at b; cases b
  | some q =>
    obtain ⟨-, a, b⟩ := fnd_some Q m 0 q hf
    exact ((h q (by omega)).mp b).symm
/-- who is crowned, by a law -/
def crw (m il lw : Nat) (c : Nat → Nat) : Option Nat :=
  if lw = 2 then lb (nw c) (fun o => !decide (c (5 * o) < 40 * il)) m
  else match lb (nw c) (fun _ => true) m with
    | none => none
    | some q => if lw = 1 then lb (nw c) (fun o => !decide (o = q)) m else some q
theorem crw_lt {m il lw : Nat} {c : Nat → Nat} {q : Nat} (h : crw m il lw c = some q) : q < m := by
  unfold crw at h
  split at h
  · exact (lb_some _ _ _ _ h).1
  · split at h
    · cases h
    · next u hu =>
      split at h
      · exact (lb_some _ _ _ _ h).1
      · cases h; exact (lb_some _ _ _ _ hu).1
def elig (il lw : Nat) (c : Nat → Nat) (o : Nat) : Bool := decide (lw < 2) || !decide (c (5 * o) < 40 * il)
def ltb (wt : Nat → Nat) (o p : Nat) : Bool := decide (wt o < wt p) || (decide (wt o = wt p) && decide (o < p))
theorem ltb_iff (wt : Nat → Nat) (o p : Nat) : ltb wt o p = true ↔ Lt wt o p := by unfold ltb Lt; simp
def ahd (il lw : Nat) (c : Nat → Nat) (p o : Nat) : Bool := !decide (o = p) && elig il lw c o && ltb (nw c) o p
def cndQ (m il lw : Nat) (c : Nat → Nat) (p : Nat) : Bool := decide (cnt (ahd il lw c p) m = (if lw = 1 then 1 else 0)) && elig il lw c p
theorem crw_eq {m il lw : Nat} {c : Nat → Nat} (hl : lw ≤ 2) : fnd (cndQ m il lw c) m 0 = crw m il lw c := by
  refine fnd_eq (fun q h => crw_lt h) (fun p hp => ?_)
  unfold cndQ crw
  by_cases h2 : lw = 2
  · subst h2
    rw [if_pos rfl, lb_iff _ _ _ _ hp, Bool.and_eq_true, decide_eq_true_iff, if_neg (by decide), cnt0]
    have el : ∀ o, elig il 2 c o = !decide (c (5 * o) < 40 * il) := fun o => by unfold elig; simp
    constructor
    · intro ⟨a, b⟩
      refine ⟨by rw [← el]; exact b, fun o ho hne he hlt => ?_⟩
      have := a o ho
      unfold ahd at this
      rw [el, he, (ltb_iff _ _ _).mpr hlt] at this
      simp [hne] at this
    · intro ⟨a, b⟩
      refine ⟨fun o ho => ?_, by rw [el]; exact a⟩
      by_cases q : ahd il 2 c p o = true
      · unfold ahd at q
        simp only [Bool.and_eq_true, Bool.not_eq_true', decide_eq_false_iff_not] at q
        exact absurd ((ltb_iff _ _ _).mp q.2) (b o ho q.1.1 (by rw [← el]; exact q.1.2))
      · simpa using q
  · have el : ∀ o, elig il lw c o = true := fun o => by unfold elig; simp; left; omega
    rw [if_neg h2, Bool.and_eq_true, decide_eq_true_iff, el]
    have ah : ∀ p o, ahd il lw c p o = (!decide (o = p) && ltb (nw c) o p) := fun p o => by unfold ahd; rw [el]; simp
    cases hq : lb (nw c) (fun _ => true) m with
    | none => have := lb_none _ _ _ hq p hp; cases this
    | some q =>
      dsimp only
      obtain ⟨q1, -, q3⟩ := lb_some _ _ _ _ hq
      by_cases h1 : lw = 1
      · rw [if_pos h1, if_pos h1, lb_iff _ _ _ _ hp, cnt_split _ q1]
        by_cases e : q = p
        · subst e
          have c0 : cnt (fun o => ahd il lw c q o && !decide (o = q)) m = 0 := (cnt0 _ _).mpr (fun o ho => by
            rw [ah]
            by_cases r : o = q
            · simp [r]
            · have : ltb (nw c) o q = false := by
                rcases q3 o ho rfl with z | z
                · exact absurd z r
                · by_cases y : ltb (nw c) o q = true
                  · have := (ltb_iff _ _ _).mp y; unfold Lt at *; omega
                  · simpa using y
              rw [this]; simp)
          have a0 : ahd il lw c q q = false := by rw [ah]; simp
          rw [c0, a0]
          simp
        · have a1 : ahd il lw c p q = true := by
            rw [ah]
            rcases q3 p hp rfl with z | z
            · exact absurd z.symm e
            · rw [(ltb_iff _ _ _).mpr z]; simp [e]
          rw [if_pos a1]
          constructor
          · intro ⟨h, _⟩
            have h0 := (cnt0 _ _).mp (by omega : cnt (fun o => ahd il lw c p o && !decide (o = q)) m = 0)
            refine ⟨by simp [Ne.symm e], fun o ho hne he hlt => ?_⟩
            have := h0 o ho
            rw [ah, (ltb_iff _ _ _).mpr hlt] at this
            simp at he
            simp [hne, he] at this
          · intro ⟨_, h⟩
            refine ⟨?_, rfl⟩
            have h0 : cnt (fun o => ahd il lw c p o && !decide (o = q)) m = 0 := (cnt0 _ _).mpr (fun o ho => by
              rw [ah]
              by_cases r : o = p
              · simp [r]
              by_cases r2 : o = q
              · simp [r2]
              have : ltb (nw c) o p = false := by
                by_cases y : ltb (nw c) o p = true
                · exact absurd ((ltb_iff _ _ _).mp y) (h o ho r (by simp [r2]))
                · simpa using y
              rw [this]; simp)
            rw [h0]
      · rw [if_neg h1, if_neg h1, cnt0]
        have key : (some q = some p) ↔ (∀ o, o < m → ahd il lw c p o = false) := by
          constructor
          · intro h
            have e : q = p := Option.some.inj h
            subst e
            intro o ho
            rw [ah]
            rcases q3 o ho rfl with z | z
            · simp [z]
            · have : ltb (nw c) o q = false := by
                by_cases y : ltb (nw c) o q = true
                · have := (ltb_iff _ _ _).mp y; unfold Lt at *; omega
                · simpa using y
              rw [this]; simp
          · intro h
            rcases q3 p hp rfl with z | z
            · rw [z]
            · have := h q q1
              rw [ah, (ltb_iff _ _ _).mpr z] at this
              simp at this
              rw [this]
        rw [key]
        simp
