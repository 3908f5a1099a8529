/-- the numbers of a world: ints and longs, by the place of the object or array and the slot -/
abbrev Mem : Type := (Nat → Nat → Int32) × (Nat → Nat → Int64)
def sI (z : Mem) (q k : Nat) (v : Int32) : Mem := (fun a => if a = q then upd (z.1 q) k v else z.1 a, z.2)
def sR (z : Mem) (q : Nat) (f : Nat → Int32) : Mem := (fun a => if a = q then f else z.1 a, z.2)
def sL (z : Mem) (q k : Nat) (v : Int64) : Mem := (z.1, fun a => if a = q then vp_updL (z.2 q) k v else z.2 a)
/-- the fuel of a loop: more than any loop takes -/
def FU : Nat := 1000000
def lt {α β : Type} (v : α) (k : α → Option β) : Option β := k v
def rg {β : Type} (i : Int32) (n : Nat) (k : Option β) : Option β := if i < 0 ∨ n ≤ i.toNatClampNeg then none else k
def nz {β : Type} (y : Int32) (k : Option β) : Option β := if y = 0 then none else k
def nzl {β : Type} (y : Int64) (k : Option β) : Option β := if y = 0 then none else k
def bo {β : Type} (y : Int32) (k : Option β) : Option β := if y = 0 ∨ y = 1 then k else none
def ac {β : Type} (sp dp n : Int32) (n0 n1 : Nat) (k : Option β) : Option β := if ¬ sp < 0 ∧ ¬ dp < 0 ∧ ¬ n < 0 ∧ sp.toNatClampNeg + n.toNatClampNeg ≤ n0 ∧ dp.toNatClampNeg + n.toNatClampNeg ≤ n1 then k else none
def cl {α β : Type} (m : Option (α × Mem)) (k : α → Mem → Option β) : Option β := match m with
  | none => none
  | some x => k x.1 x.2
def jn {α β : Type} (K : α) (body : α → β) : β := body K
theorem lt_at {α β : Type} {v x : α} {k : α → Option β} {o : Option β} (h : x = v) (hf : lt v k = o) : k x = o := by subst h; exact hf
theorem lt_P {β : Type} {v : Mem} {k : Mem → Option β} {o : Option β} {P : Mem → Prop} (hp : P v) (hf : lt v k = o) : ∃ x, P x ∧ k x = o := ⟨v, hp, hf⟩
theorem rg_el {β : Type} {i : Int32} {n : Nat} {k : Option β} {x : β} (hf : rg i n k = some x) : vp_in i n ∧ k = some x := by
  unfold rg at hf
  split at hf
  · cases hf
  · next h => exact ⟨h, hf⟩
theorem nz_el {β : Type} {i : Int32} {k : Option β} {x : β} (hf : nz i k = some x) : ¬ i = 0 ∧ k = some x := by
  unfold nz at hf
  split at hf
  · cases hf
  · next h => exact ⟨h, hf⟩
theorem nzl_el {β : Type} {i : Int64} {k : Option β} {x : β} (hf : nzl i k = some x) : ¬ i = 0 ∧ k = some x := by
  unfold nzl at hf
  split at hf
  · cases hf
  · next h => exact ⟨h, hf⟩
theorem bo_el {β : Type} {v : Int32} {k : Option β} {x : β} (hf : bo v k = some x) : narrow .boolean (.int v) = .int v ∧ k = some x := by
  unfold bo at hf
  split at hf
  · next h => exact ⟨by rcases h with rfl | rfl <;> rfl, hf⟩
  · cases hf
theorem ac_el {β : Type} {sp dp n : Int32} {n0 n1 : Nat} {k : Option β} {x : β} (hf : ac sp dp n n0 n1 k = some x) : (¬ sp < 0 ∧ ¬ dp < 0 ∧ ¬ n < 0 ∧ sp.toNatClampNeg + n.toNatClampNeg ≤ n0 ∧ dp.toNatClampNeg + n.toNatClampNeg ≤ n1) ∧ k = some x := by
  unfold ac at hf
  split at hf
  · next h => exact ⟨h, hf⟩
  · cases hf
theorem cl_el {α β : Type} {m : Option (α × Mem)} {k : α → Mem → Option β} {x : β} (hf : cl m k = some x) : ∃ (r : α) (z1 : Mem), m = some (r, z1) ∧ k r z1 = some x := by
  unfold cl at hf
  split at hf
  · cases hf
  · next y => exact ⟨y.1, y.2, rfl, hf⟩
theorem jn_el {α β : Type} {k : α} {F : α → Option β} {o : Option β} (hf : jn k F = o) : ∃ K, K = k ∧ F K = o := ⟨k, rfl, hf⟩
theorem it_t {c : Prop} [Decidable c] {β : Type} {a b o : Option β} (h : c) (hf : (if c then a else b) = o) : a = o := by rw [if_pos h] at hf; exact hf
theorem it_f {c : Prop} [Decidable c] {β : Type} {a b o : Option β} (h : ¬ c) (hf : (if c then a else b) = o) : b = o := by rw [if_neg h] at hf; exact hf
theorem ap1 {α δ : Type} {K k : α → δ} {a : α} {o : δ} (h : K = k) (hf : K a = o) : k a = o := by rw [← h]; exact hf
theorem ap2 {α β δ : Type} {K k : α → β → δ} {a : α} {b : β} {o : δ} (h : K = k) (hf : K a b = o) : k a b = o := by rw [← h]; exact hf
theorem ap3 {α β γ δ : Type} {K k : α → β → γ → δ} {a : α} {b : β} {c : γ} {o : δ} (h : K = k) (hf : K a b c = o) : k a b c = o := by rw [← h]; exact hf
theorem ap4 {α β γ ε δ : Type} {K k : α → β → γ → ε → δ} {a : α} {b : β} {c : γ} {d : ε} {o : δ} (h : K = k) (hf : K a b c d = o) : k a b c d = o := by rw [← h]; exact hf
theorem ap5 {α β γ ε ζ δ : Type} {K k : α → β → γ → ε → ζ → δ} {a : α} {b : β} {c : γ} {d : ε} {f : ζ} {o : δ} (h : K = k) (hf : K a b c d f = o) : k a b c d f = o := by rw [← h]; exact hf
theorem ap6 {α β γ ε ζ η δ : Type} {K k : α → β → γ → ε → ζ → η → δ} {a : α} {b : β} {c : γ} {d : ε} {f : ζ} {g : η} {o : δ} (h : K = k) (hf : K a b c d f g = o) : k a b c d f g = o := by rw [← h]; exact hf
theorem ap7 {α β γ ε ζ η θ δ : Type} {K k : α → β → γ → ε → ζ → η → θ → δ} {a : α} {b : β} {c : γ} {d : ε} {f : ζ} {g : η} {i : θ} {o : δ} (h : K = k) (hf : K a b c d f g i = o) : k a b c d f g i = o := by rw [← h]; exact hf
theorem rt_el {α : Type} {v r : α} {a z : Mem} (hf : some (v, a) = some (r, z)) : v = r ∧ a = z := ⟨congrArg (fun x => x.1) (Option.some.inj hf), congrArg (fun x => x.2) (Option.some.inj hf)⟩
/-- the world: every cell of the class and of the reference -/
def wAll (A : Nat → Nat) (cI cJ cZ : ClassId) (z : Mem) : va_W := [
  (A 0, .inr (8, [.ref (A 1), .ref (A 2), .ref (A 3), .ref (A 4), .ref (A 5), .ref (A 6), .ref (A 7), .ref (A 8), .int (z.1 0 8)])),
  (A 1, .inr (1, [.ref (A 10), .int (z.1 1 1)])),
  (A 2, .inr (2, [.ref (A 11), .int (z.1 2 1), .int (z.1 2 2), .int (z.1 2 3)])),
  (A 3, .inr (0, [.ref (A 12), .int (z.1 3 1), .int (z.1 3 2)])),
  (A 4, .inr (5, [.ref (A 13), .int (z.1 4 1)])),
  (A 5, .inr (6, [.ref (A 14), .ref (A 15), .ref (A 16), .int (z.1 5 3)])),
  (A 6, .inr (4, [.ref (A 17), .ref (A 18), .ref (A 19), .ref (A 20), .int (z.1 6 4), .int (z.1 6 5), .int (z.1 6 6)])),
  (A 7, .inr (3, [.ref (A 21), .ref (A 22), .ref (A 23), .int (z.1 7 3)])),
  (A 8, .inr (7, [.ref (A 9), .long (z.2 8 1)])),
  (A 9, .inr (2, [.ref (A 24), .int (z.1 9 1), .int (z.1 9 2), .int (z.1 9 3)])),
  (A 10, .inl (cI, 48, .inl (z.1 10))),
  (A 11, .inl (cI, 26, .inl (z.1 11))),
  (A 12, .inl (cI, 416, .inl (z.1 12))),
  (A 13, .inl (cI, 52, .inl (z.1 13))),
  (A 14, .inl (cI, 10, .inl (z.1 14))),
  (A 15, .inl (cI, 10, .inl (z.1 15))),
  (A 16, .inl (cI, 10, .inl (z.1 16))),
  (A 17, .inl (cI, 8, .inl (z.1 17))),
  (A 18, .inl (cI, 8, .inl (z.1 18))),
  (A 19, .inl (cI, 5, .inl (z.1 19))),
  (A 20, .inl (cI, 5, .inl (z.1 20))),
  (A 21, .inl (cI, 4, .inl (z.1 21))),
  (A 22, .inl (cI, 3, .inl (z.1 22))),
  (A 23, .inl (cJ, 2197, .inr (.inl (z.2 23)))),
  (A 24, .inl (cI, 26, .inl (z.1 24))),
  (A 25, .inr (9, [.ref (A 26), .int (z.1 25 1), .int (z.1 25 2), .int (z.1 25 3), .int (z.1 25 4), .ref (A 27), .int (z.1 25 6), .int (z.1 25 7), .int (z.1 25 8), .int (z.1 25 9), .ref (A 28), .int (z.1 25 11), .int (z.1 25 12), .int (z.1 25 13), .int (z.1 25 14), .int (z.1 25 15), .ref (A 29), .int (z.1 25 17), .ref (A 30), .ref (A 31), .ref (A 32), .int (z.1 25 21), .ref (A 33), .ref (A 34), .ref (A 35), .ref (A 36), .int (z.1 25 26), .ref (A 37), .ref (A 38), .ref (A 39), .long (z.2 25 30), .ref (A 40), .ref (A 41), .ref (A 42)])),
  (A 26, .inl (cI, 26, .inl (z.1 26))),
  (A 27, .inl (cI, 26, .inl (z.1 27))),
  (A 28, .inl (cI, 48, .inl (z.1 28))),
  (A 29, .inl (cI, 416, .inl (z.1 29))),
  (A 30, .inl (cI, 10, .inl (z.1 30))),
  (A 31, .inl (cI, 10, .inl (z.1 31))),
  (A 32, .inl (cI, 10, .inl (z.1 32))),
  (A 33, .inl (cI, 8, .inl (z.1 33))),
  (A 34, .inl (cI, 8, .inl (z.1 34))),
  (A 35, .inl (cI, 5, .inl (z.1 35))),
  (A 36, .inl (cI, 5, .inl (z.1 36))),
  (A 37, .inl (cI, 4, .inl (z.1 37))),
  (A 38, .inl (cJ, 2197, .inr (.inl (z.2 38)))),
  (A 39, .inl (cJ, 2197, .inr (.inl (z.2 39)))),
  (A 40, .inl (cI, 26, .inl (z.1 40))),
  (A 41, .inl (cZ, 2, .inl (z.1 41))),
  (A 42, .inl (cI, 52, .inl (z.1 42)))]
abbrev tys (cI cJ cZ : ClassId) : List (ClassId × FieldType) := [(cI, .int), (cJ, .long), (cZ, .boolean)]
theorem wc_0 (A : Nat → Nat) (cI cJ cZ : ClassId) (z : Mem) : (wAll A cI cJ cZ z)[0]? = some (A 0, .inr (8, [.ref (A 1), .ref (A 2), .ref (A 3), .ref (A 4), .ref (A 5), .ref (A 6), .ref (A 7), .ref (A 8), .int (z.1 0 8)])) := rfl
theorem wc_1 (A : Nat → Nat) (cI cJ cZ : ClassId) (z : Mem) : (wAll A cI cJ cZ z)[1]? = some (A 1, .inr (1, [.ref (A 10), .int (z.1 1 1)])) := rfl
theorem wc_2 (A : Nat → Nat) (cI cJ cZ : ClassId) (z : Mem) : (wAll A cI cJ cZ z)[2]? = some (A 2, .inr (2, [.ref (A 11), .int (z.1 2 1), .int (z.1 2 2), .int (z.1 2 3)])) := rfl
theorem wc_3 (A : Nat → Nat) (cI cJ cZ : ClassId) (z : Mem) : (wAll A cI cJ cZ z)[3]? = some (A 3, .inr (0, [.ref (A 12), .int (z.1 3 1), .int (z.1 3 2)])) := rfl
theorem wc_4 (A : Nat → Nat) (cI cJ cZ : ClassId) (z : Mem) : (wAll A cI cJ cZ z)[4]? = some (A 4, .inr (5, [.ref (A 13), .int (z.1 4 1)])) := rfl
theorem wc_5 (A : Nat → Nat) (cI cJ cZ : ClassId) (z : Mem) : (wAll A cI cJ cZ z)[5]? = some (A 5, .inr (6, [.ref (A 14), .ref (A 15), .ref (A 16), .int (z.1 5 3)])) := rfl
theorem wc_6 (A : Nat → Nat) (cI cJ cZ : ClassId) (z : Mem) : (wAll A cI cJ cZ z)[6]? = some (A 6, .inr (4, [.ref (A 17), .ref (A 18), .ref (A 19), .ref (A 20), .int (z.1 6 4), .int (z.1 6 5), .int (z.1 6 6)])) := rfl
theorem wc_7 (A : Nat → Nat) (cI cJ cZ : ClassId) (z : Mem) : (wAll A cI cJ cZ z)[7]? = some (A 7, .inr (3, [.ref (A 21), .ref (A 22), .ref (A 23), .int (z.1 7 3)])) := rfl
theorem wc_8 (A : Nat → Nat) (cI cJ cZ : ClassId) (z : Mem) : (wAll A cI cJ cZ z)[8]? = some (A 8, .inr (7, [.ref (A 9), .long (z.2 8 1)])) := rfl
theorem wc_9 (A : Nat → Nat) (cI cJ cZ : ClassId) (z : Mem) : (wAll A cI cJ cZ z)[9]? = some (A 9, .inr (2, [.ref (A 24), .int (z.1 9 1), .int (z.1 9 2), .int (z.1 9 3)])) := rfl
theorem wc_10 (A : Nat → Nat) (cI cJ cZ : ClassId) (z : Mem) : (wAll A cI cJ cZ z)[10]? = some (A 10, .inl (cI, 48, .inl (z.1 10))) := rfl
theorem wc_11 (A : Nat → Nat) (cI cJ cZ : ClassId) (z : Mem) : (wAll A cI cJ cZ z)[11]? = some (A 11, .inl (cI, 26, .inl (z.1 11))) := rfl
theorem wc_12 (A : Nat → Nat) (cI cJ cZ : ClassId) (z : Mem) : (wAll A cI cJ cZ z)[12]? = some (A 12, .inl (cI, 416, .inl (z.1 12))) := rfl
theorem wc_13 (A : Nat → Nat) (cI cJ cZ : ClassId) (z : Mem) : (wAll A cI cJ cZ z)[13]? = some (A 13, .inl (cI, 52, .inl (z.1 13))) := rfl
theorem wc_14 (A : Nat → Nat) (cI cJ cZ : ClassId) (z : Mem) : (wAll A cI cJ cZ z)[14]? = some (A 14, .inl (cI, 10, .inl (z.1 14))) := rfl
theorem wc_15 (A : Nat → Nat) (cI cJ cZ : ClassId) (z : Mem) : (wAll A cI cJ cZ z)[15]? = some (A 15, .inl (cI, 10, .inl (z.1 15))) := rfl
theorem wc_16 (A : Nat → Nat) (cI cJ cZ : ClassId) (z : Mem) : (wAll A cI cJ cZ z)[16]? = some (A 16, .inl (cI, 10, .inl (z.1 16))) := rfl
theorem wc_17 (A : Nat → Nat) (cI cJ cZ : ClassId) (z : Mem) : (wAll A cI cJ cZ z)[17]? = some (A 17, .inl (cI, 8, .inl (z.1 17))) := rfl
theorem wc_18 (A : Nat → Nat) (cI cJ cZ : ClassId) (z : Mem) : (wAll A cI cJ cZ z)[18]? = some (A 18, .inl (cI, 8, .inl (z.1 18))) := rfl
theorem wc_19 (A : Nat → Nat) (cI cJ cZ : ClassId) (z : Mem) : (wAll A cI cJ cZ z)[19]? = some (A 19, .inl (cI, 5, .inl (z.1 19))) := rfl
theorem wc_20 (A : Nat → Nat) (cI cJ cZ : ClassId) (z : Mem) : (wAll A cI cJ cZ z)[20]? = some (A 20, .inl (cI, 5, .inl (z.1 20))) := rfl
theorem wc_21 (A : Nat → Nat) (cI cJ cZ : ClassId) (z : Mem) : (wAll A cI cJ cZ z)[21]? = some (A 21, .inl (cI, 4, .inl (z.1 21))) := rfl
theorem wc_22 (A : Nat → Nat) (cI cJ cZ : ClassId) (z : Mem) : (wAll A cI cJ cZ z)[22]? = some (A 22, .inl (cI, 3, .inl (z.1 22))) := rfl
theorem wc_23 (A : Nat → Nat) (cI cJ cZ : ClassId) (z : Mem) : (wAll A cI cJ cZ z)[23]? = some (A 23, .inl (cJ, 2197, .inr (.inl (z.2 23)))) := rfl
theorem wc_24 (A : Nat → Nat) (cI cJ cZ : ClassId) (z : Mem) : (wAll A cI cJ cZ z)[24]? = some (A 24, .inl (cI, 26, .inl (z.1 24))) := rfl
theorem wc_25 (A : Nat → Nat) (cI cJ cZ : ClassId) (z : Mem) : (wAll A cI cJ cZ z)[25]? = some (A 25, .inr (9, [.ref (A 26), .int (z.1 25 1), .int (z.1 25 2), .int (z.1 25 3), .int (z.1 25 4), .ref (A 27), .int (z.1 25 6), .int (z.1 25 7), .int (z.1 25 8), .int (z.1 25 9), .ref (A 28), .int (z.1 25 11), .int (z.1 25 12), .int (z.1 25 13), .int (z.1 25 14), .int (z.1 25 15), .ref (A 29), .int (z.1 25 17), .ref (A 30), .ref (A 31), .ref (A 32), .int (z.1 25 21), .ref (A 33), .ref (A 34), .ref (A 35), .ref (A 36), .int (z.1 25 26), .ref (A 37), .ref (A 38), .ref (A 39), .long (z.2 25 30), .ref (A 40), .ref (A 41), .ref (A 42)])) := rfl
theorem wc_26 (A : Nat → Nat) (cI cJ cZ : ClassId) (z : Mem) : (wAll A cI cJ cZ z)[26]? = some (A 26, .inl (cI, 26, .inl (z.1 26))) := rfl
theorem wc_27 (A : Nat → Nat) (cI cJ cZ : ClassId) (z : Mem) : (wAll A cI cJ cZ z)[27]? = some (A 27, .inl (cI, 26, .inl (z.1 27))) := rfl
theorem wc_28 (A : Nat → Nat) (cI cJ cZ : ClassId) (z : Mem) : (wAll A cI cJ cZ z)[28]? = some (A 28, .inl (cI, 48, .inl (z.1 28))) := rfl
theorem wc_29 (A : Nat → Nat) (cI cJ cZ : ClassId) (z : Mem) : (wAll A cI cJ cZ z)[29]? = some (A 29, .inl (cI, 416, .inl (z.1 29))) := rfl
theorem wc_30 (A : Nat → Nat) (cI cJ cZ : ClassId) (z : Mem) : (wAll A cI cJ cZ z)[30]? = some (A 30, .inl (cI, 10, .inl (z.1 30))) := rfl
theorem wc_31 (A : Nat → Nat) (cI cJ cZ : ClassId) (z : Mem) : (wAll A cI cJ cZ z)[31]? = some (A 31, .inl (cI, 10, .inl (z.1 31))) := rfl
theorem wc_32 (A : Nat → Nat) (cI cJ cZ : ClassId) (z : Mem) : (wAll A cI cJ cZ z)[32]? = some (A 32, .inl (cI, 10, .inl (z.1 32))) := rfl
theorem wc_33 (A : Nat → Nat) (cI cJ cZ : ClassId) (z : Mem) : (wAll A cI cJ cZ z)[33]? = some (A 33, .inl (cI, 8, .inl (z.1 33))) := rfl
theorem wc_34 (A : Nat → Nat) (cI cJ cZ : ClassId) (z : Mem) : (wAll A cI cJ cZ z)[34]? = some (A 34, .inl (cI, 8, .inl (z.1 34))) := rfl
theorem wc_35 (A : Nat → Nat) (cI cJ cZ : ClassId) (z : Mem) : (wAll A cI cJ cZ z)[35]? = some (A 35, .inl (cI, 5, .inl (z.1 35))) := rfl
theorem wc_36 (A : Nat → Nat) (cI cJ cZ : ClassId) (z : Mem) : (wAll A cI cJ cZ z)[36]? = some (A 36, .inl (cI, 5, .inl (z.1 36))) := rfl
theorem wc_37 (A : Nat → Nat) (cI cJ cZ : ClassId) (z : Mem) : (wAll A cI cJ cZ z)[37]? = some (A 37, .inl (cI, 4, .inl (z.1 37))) := rfl
theorem wc_38 (A : Nat → Nat) (cI cJ cZ : ClassId) (z : Mem) : (wAll A cI cJ cZ z)[38]? = some (A 38, .inl (cJ, 2197, .inr (.inl (z.2 38)))) := rfl
theorem wc_39 (A : Nat → Nat) (cI cJ cZ : ClassId) (z : Mem) : (wAll A cI cJ cZ z)[39]? = some (A 39, .inl (cJ, 2197, .inr (.inl (z.2 39)))) := rfl
theorem wc_40 (A : Nat → Nat) (cI cJ cZ : ClassId) (z : Mem) : (wAll A cI cJ cZ z)[40]? = some (A 40, .inl (cI, 26, .inl (z.1 40))) := rfl
theorem wc_41 (A : Nat → Nat) (cI cJ cZ : ClassId) (z : Mem) : (wAll A cI cJ cZ z)[41]? = some (A 41, .inl (cZ, 2, .inl (z.1 41))) := rfl
theorem wc_42 (A : Nat → Nat) (cI cJ cZ : ClassId) (z : Mem) : (wAll A cI cJ cZ z)[42]? = some (A 42, .inl (cI, 52, .inl (z.1 42))) := rfl
theorem ws_0_8 (A : Nat → Nat) (cI cJ cZ : ClassId) (z : Mem) (v : Int32) : (wAll A cI cJ cZ z).set 0 (A 0, .inr (8, List.set [.ref (A 1), .ref (A 2), .ref (A 3), .ref (A 4), .ref (A 5), .ref (A 6), .ref (A 7), .ref (A 8), .int (z.1 0 8)] 8 (.int v))) = wAll A cI cJ cZ (sI z 0 8 v) := rfl
theorem ws_1_1 (A : Nat → Nat) (cI cJ cZ : ClassId) (z : Mem) (v : Int32) : (wAll A cI cJ cZ z).set 1 (A 1, .inr (1, List.set [.ref (A 10), .int (z.1 1 1)] 1 (.int v))) = wAll A cI cJ cZ (sI z 1 1 v) := rfl
theorem ws_2_1 (A : Nat → Nat) (cI cJ cZ : ClassId) (z : Mem) (v : Int32) : (wAll A cI cJ cZ z).set 2 (A 2, .inr (2, List.set [.ref (A 11), .int (z.1 2 1), .int (z.1 2 2), .int (z.1 2 3)] 1 (.int v))) = wAll A cI cJ cZ (sI z 2 1 v) := rfl
theorem ws_2_2 (A : Nat → Nat) (cI cJ cZ : ClassId) (z : Mem) (v : Int32) : (wAll A cI cJ cZ z).set 2 (A 2, .inr (2, List.set [.ref (A 11), .int (z.1 2 1), .int (z.1 2 2), .int (z.1 2 3)] 2 (.int v))) = wAll A cI cJ cZ (sI z 2 2 v) := rfl
theorem ws_2_3 (A : Nat → Nat) (cI cJ cZ : ClassId) (z : Mem) (v : Int32) : (wAll A cI cJ cZ z).set 2 (A 2, .inr (2, List.set [.ref (A 11), .int (z.1 2 1), .int (z.1 2 2), .int (z.1 2 3)] 3 (.int v))) = wAll A cI cJ cZ (sI z 2 3 v) := rfl
theorem ws_3_1 (A : Nat → Nat) (cI cJ cZ : ClassId) (z : Mem) (v : Int32) : (wAll A cI cJ cZ z).set 3 (A 3, .inr (0, List.set [.ref (A 12), .int (z.1 3 1), .int (z.1 3 2)] 1 (.int v))) = wAll A cI cJ cZ (sI z 3 1 v) := rfl
theorem ws_3_2 (A : Nat → Nat) (cI cJ cZ : ClassId) (z : Mem) (v : Int32) : (wAll A cI cJ cZ z).set 3 (A 3, .inr (0, List.set [.ref (A 12), .int (z.1 3 1), .int (z.1 3 2)] 2 (.int v))) = wAll A cI cJ cZ (sI z 3 2 v) := rfl
theorem ws_4_1 (A : Nat → Nat) (cI cJ cZ : ClassId) (z : Mem) (v : Int32) : (wAll A cI cJ cZ z).set 4 (A 4, .inr (5, List.set [.ref (A 13), .int (z.1 4 1)] 1 (.int v))) = wAll A cI cJ cZ (sI z 4 1 v) := rfl
theorem ws_5_3 (A : Nat → Nat) (cI cJ cZ : ClassId) (z : Mem) (v : Int32) : (wAll A cI cJ cZ z).set 5 (A 5, .inr (6, List.set [.ref (A 14), .ref (A 15), .ref (A 16), .int (z.1 5 3)] 3 (.int v))) = wAll A cI cJ cZ (sI z 5 3 v) := rfl
theorem ws_6_4 (A : Nat → Nat) (cI cJ cZ : ClassId) (z : Mem) (v : Int32) : (wAll A cI cJ cZ z).set 6 (A 6, .inr (4, List.set [.ref (A 17), .ref (A 18), .ref (A 19), .ref (A 20), .int (z.1 6 4), .int (z.1 6 5), .int (z.1 6 6)] 4 (.int v))) = wAll A cI cJ cZ (sI z 6 4 v) := rfl
theorem ws_6_5 (A : Nat → Nat) (cI cJ cZ : ClassId) (z : Mem) (v : Int32) : (wAll A cI cJ cZ z).set 6 (A 6, .inr (4, List.set [.ref (A 17), .ref (A 18), .ref (A 19), .ref (A 20), .int (z.1 6 4), .int (z.1 6 5), .int (z.1 6 6)] 5 (.int v))) = wAll A cI cJ cZ (sI z 6 5 v) := rfl
theorem ws_6_6 (A : Nat → Nat) (cI cJ cZ : ClassId) (z : Mem) (v : Int32) : (wAll A cI cJ cZ z).set 6 (A 6, .inr (4, List.set [.ref (A 17), .ref (A 18), .ref (A 19), .ref (A 20), .int (z.1 6 4), .int (z.1 6 5), .int (z.1 6 6)] 6 (.int v))) = wAll A cI cJ cZ (sI z 6 6 v) := rfl
theorem ws_7_3 (A : Nat → Nat) (cI cJ cZ : ClassId) (z : Mem) (v : Int32) : (wAll A cI cJ cZ z).set 7 (A 7, .inr (3, List.set [.ref (A 21), .ref (A 22), .ref (A 23), .int (z.1 7 3)] 3 (.int v))) = wAll A cI cJ cZ (sI z 7 3 v) := rfl
theorem ws_8_1 (A : Nat → Nat) (cI cJ cZ : ClassId) (z : Mem) (v : Int64) : (wAll A cI cJ cZ z).set 8 (A 8, .inr (7, List.set [.ref (A 9), .long (z.2 8 1)] 1 (.long v))) = wAll A cI cJ cZ (sL z 8 1 v) := rfl
theorem ws_9_1 (A : Nat → Nat) (cI cJ cZ : ClassId) (z : Mem) (v : Int32) : (wAll A cI cJ cZ z).set 9 (A 9, .inr (2, List.set [.ref (A 24), .int (z.1 9 1), .int (z.1 9 2), .int (z.1 9 3)] 1 (.int v))) = wAll A cI cJ cZ (sI z 9 1 v) := rfl
theorem ws_9_2 (A : Nat → Nat) (cI cJ cZ : ClassId) (z : Mem) (v : Int32) : (wAll A cI cJ cZ z).set 9 (A 9, .inr (2, List.set [.ref (A 24), .int (z.1 9 1), .int (z.1 9 2), .int (z.1 9 3)] 2 (.int v))) = wAll A cI cJ cZ (sI z 9 2 v) := rfl
theorem ws_9_3 (A : Nat → Nat) (cI cJ cZ : ClassId) (z : Mem) (v : Int32) : (wAll A cI cJ cZ z).set 9 (A 9, .inr (2, List.set [.ref (A 24), .int (z.1 9 1), .int (z.1 9 2), .int (z.1 9 3)] 3 (.int v))) = wAll A cI cJ cZ (sI z 9 3 v) := rfl
theorem wa_10 (A : Nat → Nat) (cI cJ cZ : ClassId) (z : Mem) (k : Nat) (v : Int32) : (wAll A cI cJ cZ z).set 10 (A 10, .inl (cI, 48, .inl (upd (z.1 10) k v))) = wAll A cI cJ cZ (sI z 10 k v) := rfl
theorem wr_10 (A : Nat → Nat) (cI cJ cZ : ClassId) (z : Mem) (f : Nat → Int32) : (wAll A cI cJ cZ z).set 10 (A 10, .inl (cI, 48, .inl f)) = wAll A cI cJ cZ (sR z 10 f) := rfl
theorem wa_11 (A : Nat → Nat) (cI cJ cZ : ClassId) (z : Mem) (k : Nat) (v : Int32) : (wAll A cI cJ cZ z).set 11 (A 11, .inl (cI, 26, .inl (upd (z.1 11) k v))) = wAll A cI cJ cZ (sI z 11 k v) := rfl
theorem wr_11 (A : Nat → Nat) (cI cJ cZ : ClassId) (z : Mem) (f : Nat → Int32) : (wAll A cI cJ cZ z).set 11 (A 11, .inl (cI, 26, .inl f)) = wAll A cI cJ cZ (sR z 11 f) := rfl
theorem wa_12 (A : Nat → Nat) (cI cJ cZ : ClassId) (z : Mem) (k : Nat) (v : Int32) : (wAll A cI cJ cZ z).set 12 (A 12, .inl (cI, 416, .inl (upd (z.1 12) k v))) = wAll A cI cJ cZ (sI z 12 k v) := rfl
theorem wr_12 (A : Nat → Nat) (cI cJ cZ : ClassId) (z : Mem) (f : Nat → Int32) : (wAll A cI cJ cZ z).set 12 (A 12, .inl (cI, 416, .inl f)) = wAll A cI cJ cZ (sR z 12 f) := rfl
theorem wa_13 (A : Nat → Nat) (cI cJ cZ : ClassId) (z : Mem) (k : Nat) (v : Int32) : (wAll A cI cJ cZ z).set 13 (A 13, .inl (cI, 52, .inl (upd (z.1 13) k v))) = wAll A cI cJ cZ (sI z 13 k v) := rfl
theorem wr_13 (A : Nat → Nat) (cI cJ cZ : ClassId) (z : Mem) (f : Nat → Int32) : (wAll A cI cJ cZ z).set 13 (A 13, .inl (cI, 52, .inl f)) = wAll A cI cJ cZ (sR z 13 f) := rfl
theorem wa_14 (A : Nat → Nat) (cI cJ cZ : ClassId) (z : Mem) (k : Nat) (v : Int32) : (wAll A cI cJ cZ z).set 14 (A 14, .inl (cI, 10, .inl (upd (z.1 14) k v))) = wAll A cI cJ cZ (sI z 14 k v) := rfl
theorem wr_14 (A : Nat → Nat) (cI cJ cZ : ClassId) (z : Mem) (f : Nat → Int32) : (wAll A cI cJ cZ z).set 14 (A 14, .inl (cI, 10, .inl f)) = wAll A cI cJ cZ (sR z 14 f) := rfl
theorem wa_15 (A : Nat → Nat) (cI cJ cZ : ClassId) (z : Mem) (k : Nat) (v : Int32) : (wAll A cI cJ cZ z).set 15 (A 15, .inl (cI, 10, .inl (upd (z.1 15) k v))) = wAll A cI cJ cZ (sI z 15 k v) := rfl
theorem wr_15 (A : Nat → Nat) (cI cJ cZ : ClassId) (z : Mem) (f : Nat → Int32) : (wAll A cI cJ cZ z).set 15 (A 15, .inl (cI, 10, .inl f)) = wAll A cI cJ cZ (sR z 15 f) := rfl
theorem wa_16 (A : Nat → Nat) (cI cJ cZ : ClassId) (z : Mem) (k : Nat) (v : Int32) : (wAll A cI cJ cZ z).set 16 (A 16, .inl (cI, 10, .inl (upd (z.1 16) k v))) = wAll A cI cJ cZ (sI z 16 k v) := rfl
theorem wr_16 (A : Nat → Nat) (cI cJ cZ : ClassId) (z : Mem) (f : Nat → Int32) : (wAll A cI cJ cZ z).set 16 (A 16, .inl (cI, 10, .inl f)) = wAll A cI cJ cZ (sR z 16 f) := rfl
theorem wa_17 (A : Nat → Nat) (cI cJ cZ : ClassId) (z : Mem) (k : Nat) (v : Int32) : (wAll A cI cJ cZ z).set 17 (A 17, .inl (cI, 8, .inl (upd (z.1 17) k v))) = wAll A cI cJ cZ (sI z 17 k v) := rfl
theorem wr_17 (A : Nat → Nat) (cI cJ cZ : ClassId) (z : Mem) (f : Nat → Int32) : (wAll A cI cJ cZ z).set 17 (A 17, .inl (cI, 8, .inl f)) = wAll A cI cJ cZ (sR z 17 f) := rfl
theorem wa_18 (A : Nat → Nat) (cI cJ cZ : ClassId) (z : Mem) (k : Nat) (v : Int32) : (wAll A cI cJ cZ z).set 18 (A 18, .inl (cI, 8, .inl (upd (z.1 18) k v))) = wAll A cI cJ cZ (sI z 18 k v) := rfl
theorem wr_18 (A : Nat → Nat) (cI cJ cZ : ClassId) (z : Mem) (f : Nat → Int32) : (wAll A cI cJ cZ z).set 18 (A 18, .inl (cI, 8, .inl f)) = wAll A cI cJ cZ (sR z 18 f) := rfl
theorem wa_19 (A : Nat → Nat) (cI cJ cZ : ClassId) (z : Mem) (k : Nat) (v : Int32) : (wAll A cI cJ cZ z).set 19 (A 19, .inl (cI, 5, .inl (upd (z.1 19) k v))) = wAll A cI cJ cZ (sI z 19 k v) := rfl
theorem wr_19 (A : Nat → Nat) (cI cJ cZ : ClassId) (z : Mem) (f : Nat → Int32) : (wAll A cI cJ cZ z).set 19 (A 19, .inl (cI, 5, .inl f)) = wAll A cI cJ cZ (sR z 19 f) := rfl
theorem wa_20 (A : Nat → Nat) (cI cJ cZ : ClassId) (z : Mem) (k : Nat) (v : Int32) : (wAll A cI cJ cZ z).set 20 (A 20, .inl (cI, 5, .inl (upd (z.1 20) k v))) = wAll A cI cJ cZ (sI z 20 k v) := rfl
theorem wr_20 (A : Nat → Nat) (cI cJ cZ : ClassId) (z : Mem) (f : Nat → Int32) : (wAll A cI cJ cZ z).set 20 (A 20, .inl (cI, 5, .inl f)) = wAll A cI cJ cZ (sR z 20 f) := rfl
theorem wa_21 (A : Nat → Nat) (cI cJ cZ : ClassId) (z : Mem) (k : Nat) (v : Int32) : (wAll A cI cJ cZ z).set 21 (A 21, .inl (cI, 4, .inl (upd (z.1 21) k v))) = wAll A cI cJ cZ (sI z 21 k v) := rfl
theorem wr_21 (A : Nat → Nat) (cI cJ cZ : ClassId) (z : Mem) (f : Nat → Int32) : (wAll A cI cJ cZ z).set 21 (A 21, .inl (cI, 4, .inl f)) = wAll A cI cJ cZ (sR z 21 f) := rfl
theorem wa_22 (A : Nat → Nat) (cI cJ cZ : ClassId) (z : Mem) (k : Nat) (v : Int32) : (wAll A cI cJ cZ z).set 22 (A 22, .inl (cI, 3, .inl (upd (z.1 22) k v))) = wAll A cI cJ cZ (sI z 22 k v) := rfl
theorem wr_22 (A : Nat → Nat) (cI cJ cZ : ClassId) (z : Mem) (f : Nat → Int32) : (wAll A cI cJ cZ z).set 22 (A 22, .inl (cI, 3, .inl f)) = wAll A cI cJ cZ (sR z 22 f) := rfl
theorem wa_23 (A : Nat → Nat) (cI cJ cZ : ClassId) (z : Mem) (k : Nat) (v : Int64) : (wAll A cI cJ cZ z).set 23 (A 23, .inl (cJ, 2197, .inr (.inl (vp_updL (z.2 23) k v)))) = wAll A cI cJ cZ (sL z 23 k v) := rfl
theorem wa_24 (A : Nat → Nat) (cI cJ cZ : ClassId) (z : Mem) (k : Nat) (v : Int32) : (wAll A cI cJ cZ z).set 24 (A 24, .inl (cI, 26, .inl (upd (z.1 24) k v))) = wAll A cI cJ cZ (sI z 24 k v) := rfl
theorem wr_24 (A : Nat → Nat) (cI cJ cZ : ClassId) (z : Mem) (f : Nat → Int32) : (wAll A cI cJ cZ z).set 24 (A 24, .inl (cI, 26, .inl f)) = wAll A cI cJ cZ (sR z 24 f) := rfl
theorem ws_25_1 (A : Nat → Nat) (cI cJ cZ : ClassId) (z : Mem) (v : Int32) : (wAll A cI cJ cZ z).set 25 (A 25, .inr (9, List.set [.ref (A 26), .int (z.1 25 1), .int (z.1 25 2), .int (z.1 25 3), .int (z.1 25 4), .ref (A 27), .int (z.1 25 6), .int (z.1 25 7), .int (z.1 25 8), .int (z.1 25 9), .ref (A 28), .int (z.1 25 11), .int (z.1 25 12), .int (z.1 25 13), .int (z.1 25 14), .int (z.1 25 15), .ref (A 29), .int (z.1 25 17), .ref (A 30), .ref (A 31), .ref (A 32), .int (z.1 25 21), .ref (A 33), .ref (A 34), .ref (A 35), .ref (A 36), .int (z.1 25 26), .ref (A 37), .ref (A 38), .ref (A 39), .long (z.2 25 30), .ref (A 40), .ref (A 41), .ref (A 42)] 1 (.int v))) = wAll A cI cJ cZ (sI z 25 1 v) := rfl
theorem ws_25_2 (A : Nat → Nat) (cI cJ cZ : ClassId) (z : Mem) (v : Int32) : (wAll A cI cJ cZ z).set 25 (A 25, .inr (9, List.set [.ref (A 26), .int (z.1 25 1), .int (z.1 25 2), .int (z.1 25 3), .int (z.1 25 4), .ref (A 27), .int (z.1 25 6), .int (z.1 25 7), .int (z.1 25 8), .int (z.1 25 9), .ref (A 28), .int (z.1 25 11), .int (z.1 25 12), .int (z.1 25 13), .int (z.1 25 14), .int (z.1 25 15), .ref (A 29), .int (z.1 25 17), .ref (A 30), .ref (A 31), .ref (A 32), .int (z.1 25 21), .ref (A 33), .ref (A 34), .ref (A 35), .ref (A 36), .int (z.1 25 26), .ref (A 37), .ref (A 38), .ref (A 39), .long (z.2 25 30), .ref (A 40), .ref (A 41), .ref (A 42)] 2 (.int v))) = wAll A cI cJ cZ (sI z 25 2 v) := rfl
theorem ws_25_3 (A : Nat → Nat) (cI cJ cZ : ClassId) (z : Mem) (v : Int32) : (wAll A cI cJ cZ z).set 25 (A 25, .inr (9, List.set [.ref (A 26), .int (z.1 25 1), .int (z.1 25 2), .int (z.1 25 3), .int (z.1 25 4), .ref (A 27), .int (z.1 25 6), .int (z.1 25 7), .int (z.1 25 8), .int (z.1 25 9), .ref (A 28), .int (z.1 25 11), .int (z.1 25 12), .int (z.1 25 13), .int (z.1 25 14), .int (z.1 25 15), .ref (A 29), .int (z.1 25 17), .ref (A 30), .ref (A 31), .ref (A 32), .int (z.1 25 21), .ref (A 33), .ref (A 34), .ref (A 35), .ref (A 36), .int (z.1 25 26), .ref (A 37), .ref (A 38), .ref (A 39), .long (z.2 25 30), .ref (A 40), .ref (A 41), .ref (A 42)] 3 (.int v))) = wAll A cI cJ cZ (sI z 25 3 v) := rfl
theorem ws_25_4 (A : Nat → Nat) (cI cJ cZ : ClassId) (z : Mem) (v : Int32) : (wAll A cI cJ cZ z).set 25 (A 25, .inr (9, List.set [.ref (A 26), .int (z.1 25 1), .int (z.1 25 2), .int (z.1 25 3), .int (z.1 25 4), .ref (A 27), .int (z.1 25 6), .int (z.1 25 7), .int (z.1 25 8), .int (z.1 25 9), .ref (A 28), .int (z.1 25 11), .int (z.1 25 12), .int (z.1 25 13), .int (z.1 25 14), .int (z.1 25 15), .ref (A 29), .int (z.1 25 17), .ref (A 30), .ref (A 31), .ref (A 32), .int (z.1 25 21), .ref (A 33), .ref (A 34), .ref (A 35), .ref (A 36), .int (z.1 25 26), .ref (A 37), .ref (A 38), .ref (A 39), .long (z.2 25 30), .ref (A 40), .ref (A 41), .ref (A 42)] 4 (.int v))) = wAll A cI cJ cZ (sI z 25 4 v) := rfl
theorem ws_25_6 (A : Nat → Nat) (cI cJ cZ : ClassId) (z : Mem) (v : Int32) : (wAll A cI cJ cZ z).set 25 (A 25, .inr (9, List.set [.ref (A 26), .int (z.1 25 1), .int (z.1 25 2), .int (z.1 25 3), .int (z.1 25 4), .ref (A 27), .int (z.1 25 6), .int (z.1 25 7), .int (z.1 25 8), .int (z.1 25 9), .ref (A 28), .int (z.1 25 11), .int (z.1 25 12), .int (z.1 25 13), .int (z.1 25 14), .int (z.1 25 15), .ref (A 29), .int (z.1 25 17), .ref (A 30), .ref (A 31), .ref (A 32), .int (z.1 25 21), .ref (A 33), .ref (A 34), .ref (A 35), .ref (A 36), .int (z.1 25 26), .ref (A 37), .ref (A 38), .ref (A 39), .long (z.2 25 30), .ref (A 40), .ref (A 41), .ref (A 42)] 6 (.int v))) = wAll A cI cJ cZ (sI z 25 6 v) := rfl
theorem ws_25_7 (A : Nat → Nat) (cI cJ cZ : ClassId) (z : Mem) (v : Int32) : (wAll A cI cJ cZ z).set 25 (A 25, .inr (9, List.set [.ref (A 26), .int (z.1 25 1), .int (z.1 25 2), .int (z.1 25 3), .int (z.1 25 4), .ref (A 27), .int (z.1 25 6), .int (z.1 25 7), .int (z.1 25 8), .int (z.1 25 9), .ref (A 28), .int (z.1 25 11), .int (z.1 25 12), .int (z.1 25 13), .int (z.1 25 14), .int (z.1 25 15), .ref (A 29), .int (z.1 25 17), .ref (A 30), .ref (A 31), .ref (A 32), .int (z.1 25 21), .ref (A 33), .ref (A 34), .ref (A 35), .ref (A 36), .int (z.1 25 26), .ref (A 37), .ref (A 38), .ref (A 39), .long (z.2 25 30), .ref (A 40), .ref (A 41), .ref (A 42)] 7 (.int v))) = wAll A cI cJ cZ (sI z 25 7 v) := rfl
theorem ws_25_8 (A : Nat → Nat) (cI cJ cZ : ClassId) (z : Mem) (v : Int32) : (wAll A cI cJ cZ z).set 25 (A 25, .inr (9, List.set [.ref (A 26), .int (z.1 25 1), .int (z.1 25 2), .int (z.1 25 3), .int (z.1 25 4), .ref (A 27), .int (z.1 25 6), .int (z.1 25 7), .int (z.1 25 8), .int (z.1 25 9), .ref (A 28), .int (z.1 25 11), .int (z.1 25 12), .int (z.1 25 13), .int (z.1 25 14), .int (z.1 25 15), .ref (A 29), .int (z.1 25 17), .ref (A 30), .ref (A 31), .ref (A 32), .int (z.1 25 21), .ref (A 33), .ref (A 34), .ref (A 35), .ref (A 36), .int (z.1 25 26), .ref (A 37), .ref (A 38), .ref (A 39), .long (z.2 25 30), .ref (A 40), .ref (A 41), .ref (A 42)] 8 (.int v))) = wAll A cI cJ cZ (sI z 25 8 v) := rfl
theorem ws_25_9 (A : Nat → Nat) (cI cJ cZ : ClassId) (z : Mem) (v : Int32) : (wAll A cI cJ cZ z).set 25 (A 25, .inr (9, List.set [.ref (A 26), .int (z.1 25 1), .int (z.1 25 2), .int (z.1 25 3), .int (z.1 25 4), .ref (A 27), .int (z.1 25 6), .int (z.1 25 7), .int (z.1 25 8), .int (z.1 25 9), .ref (A 28), .int (z.1 25 11), .int (z.1 25 12), .int (z.1 25 13), .int (z.1 25 14), .int (z.1 25 15), .ref (A 29), .int (z.1 25 17), .ref (A 30), .ref (A 31), .ref (A 32), .int (z.1 25 21), .ref (A 33), .ref (A 34), .ref (A 35), .ref (A 36), .int (z.1 25 26), .ref (A 37), .ref (A 38), .ref (A 39), .long (z.2 25 30), .ref (A 40), .ref (A 41), .ref (A 42)] 9 (.int v))) = wAll A cI cJ cZ (sI z 25 9 v) := rfl
theorem ws_25_11 (A : Nat → Nat) (cI cJ cZ : ClassId) (z : Mem) (v : Int32) : (wAll A cI cJ cZ z).set 25 (A 25, .inr (9, List.set [.ref (A 26), .int (z.1 25 1), .int (z.1 25 2), .int (z.1 25 3), .int (z.1 25 4), .ref (A 27), .int (z.1 25 6), .int (z.1 25 7), .int (z.1 25 8), .int (z.1 25 9), .ref (A 28), .int (z.1 25 11), .int (z.1 25 12), .int (z.1 25 13), .int (z.1 25 14), .int (z.1 25 15), .ref (A 29), .int (z.1 25 17), .ref (A 30), .ref (A 31), .ref (A 32), .int (z.1 25 21), .ref (A 33), .ref (A 34), .ref (A 35), .ref (A 36), .int (z.1 25 26), .ref (A 37), .ref (A 38), .ref (A 39), .long (z.2 25 30), .ref (A 40), .ref (A 41), .ref (A 42)] 11 (.int v))) = wAll A cI cJ cZ (sI z 25 11 v) := rfl
theorem ws_25_12 (A : Nat → Nat) (cI cJ cZ : ClassId) (z : Mem) (v : Int32) : (wAll A cI cJ cZ z).set 25 (A 25, .inr (9, List.set [.ref (A 26), .int (z.1 25 1), .int (z.1 25 2), .int (z.1 25 3), .int (z.1 25 4), .ref (A 27), .int (z.1 25 6), .int (z.1 25 7), .int (z.1 25 8), .int (z.1 25 9), .ref (A 28), .int (z.1 25 11), .int (z.1 25 12), .int (z.1 25 13), .int (z.1 25 14), .int (z.1 25 15), .ref (A 29), .int (z.1 25 17), .ref (A 30), .ref (A 31), .ref (A 32), .int (z.1 25 21), .ref (A 33), .ref (A 34), .ref (A 35), .ref (A 36), .int (z.1 25 26), .ref (A 37), .ref (A 38), .ref (A 39), .long (z.2 25 30), .ref (A 40), .ref (A 41), .ref (A 42)] 12 (.int v))) = wAll A cI cJ cZ (sI z 25 12 v) := rfl
theorem ws_25_13 (A : Nat → Nat) (cI cJ cZ : ClassId) (z : Mem) (v : Int32) : (wAll A cI cJ cZ z).set 25 (A 25, .inr (9, List.set [.ref (A 26), .int (z.1 25 1), .int (z.1 25 2), .int (z.1 25 3), .int (z.1 25 4), .ref (A 27), .int (z.1 25 6), .int (z.1 25 7), .int (z.1 25 8), .int (z.1 25 9), .ref (A 28), .int (z.1 25 11), .int (z.1 25 12), .int (z.1 25 13), .int (z.1 25 14), .int (z.1 25 15), .ref (A 29), .int (z.1 25 17), .ref (A 30), .ref (A 31), .ref (A 32), .int (z.1 25 21), .ref (A 33), .ref (A 34), .ref (A 35), .ref (A 36), .int (z.1 25 26), .ref (A 37), .ref (A 38), .ref (A 39), .long (z.2 25 30), .ref (A 40), .ref (A 41), .ref (A 42)] 13 (.int v))) = wAll A cI cJ cZ (sI z 25 13 v) := rfl
theorem ws_25_14 (A : Nat → Nat) (cI cJ cZ : ClassId) (z : Mem) (v : Int32) : (wAll A cI cJ cZ z).set 25 (A 25, .inr (9, List.set [.ref (A 26), .int (z.1 25 1), .int (z.1 25 2), .int (z.1 25 3), .int (z.1 25 4), .ref (A 27), .int (z.1 25 6), .int (z.1 25 7), .int (z.1 25 8), .int (z.1 25 9), .ref (A 28), .int (z.1 25 11), .int (z.1 25 12), .int (z.1 25 13), .int (z.1 25 14), .int (z.1 25 15), .ref (A 29), .int (z.1 25 17), .ref (A 30), .ref (A 31), .ref (A 32), .int (z.1 25 21), .ref (A 33), .ref (A 34), .ref (A 35), .ref (A 36), .int (z.1 25 26), .ref (A 37), .ref (A 38), .ref (A 39), .long (z.2 25 30), .ref (A 40), .ref (A 41), .ref (A 42)] 14 (.int v))) = wAll A cI cJ cZ (sI z 25 14 v) := rfl
theorem ws_25_15 (A : Nat → Nat) (cI cJ cZ : ClassId) (z : Mem) (v : Int32) : (wAll A cI cJ cZ z).set 25 (A 25, .inr (9, List.set [.ref (A 26), .int (z.1 25 1), .int (z.1 25 2), .int (z.1 25 3), .int (z.1 25 4), .ref (A 27), .int (z.1 25 6), .int (z.1 25 7), .int (z.1 25 8), .int (z.1 25 9), .ref (A 28), .int (z.1 25 11), .int (z.1 25 12), .int (z.1 25 13), .int (z.1 25 14), .int (z.1 25 15), .ref (A 29), .int (z.1 25 17), .ref (A 30), .ref (A 31), .ref (A 32), .int (z.1 25 21), .ref (A 33), .ref (A 34), .ref (A 35), .ref (A 36), .int (z.1 25 26), .ref (A 37), .ref (A 38), .ref (A 39), .long (z.2 25 30), .ref (A 40), .ref (A 41), .ref (A 42)] 15 (.int v))) = wAll A cI cJ cZ (sI z 25 15 v) := rfl
theorem ws_25_17 (A : Nat → Nat) (cI cJ cZ : ClassId) (z : Mem) (v : Int32) : (wAll A cI cJ cZ z).set 25 (A 25, .inr (9, List.set [.ref (A 26), .int (z.1 25 1), .int (z.1 25 2), .int (z.1 25 3), .int (z.1 25 4), .ref (A 27), .int (z.1 25 6), .int (z.1 25 7), .int (z.1 25 8), .int (z.1 25 9), .ref (A 28), .int (z.1 25 11), .int (z.1 25 12), .int (z.1 25 13), .int (z.1 25 14), .int (z.1 25 15), .ref (A 29), .int (z.1 25 17), .ref (A 30), .ref (A 31), .ref (A 32), .int (z.1 25 21), .ref (A 33), .ref (A 34), .ref (A 35), .ref (A 36), .int (z.1 25 26), .ref (A 37), .ref (A 38), .ref (A 39), .long (z.2 25 30), .ref (A 40), .ref (A 41), .ref (A 42)] 17 (.int v))) = wAll A cI cJ cZ (sI z 25 17 v) := rfl
theorem ws_25_21 (A : Nat → Nat) (cI cJ cZ : ClassId) (z : Mem) (v : Int32) : (wAll A cI cJ cZ z).set 25 (A 25, .inr (9, List.set [.ref (A 26), .int (z.1 25 1), .int (z.1 25 2), .int (z.1 25 3), .int (z.1 25 4), .ref (A 27), .int (z.1 25 6), .int (z.1 25 7), .int (z.1 25 8), .int (z.1 25 9), .ref (A 28), .int (z.1 25 11), .int (z.1 25 12), .int (z.1 25 13), .int (z.1 25 14), .int (z.1 25 15), .ref (A 29), .int (z.1 25 17), .ref (A 30), .ref (A 31), .ref (A 32), .int (z.1 25 21), .ref (A 33), .ref (A 34), .ref (A 35), .ref (A 36), .int (z.1 25 26), .ref (A 37), .ref (A 38), .ref (A 39), .long (z.2 25 30), .ref (A 40), .ref (A 41), .ref (A 42)] 21 (.int v))) = wAll A cI cJ cZ (sI z 25 21 v) := rfl
theorem ws_25_26 (A : Nat → Nat) (cI cJ cZ : ClassId) (z : Mem) (v : Int32) : (wAll A cI cJ cZ z).set 25 (A 25, .inr (9, List.set [.ref (A 26), .int (z.1 25 1), .int (z.1 25 2), .int (z.1 25 3), .int (z.1 25 4), .ref (A 27), .int (z.1 25 6), .int (z.1 25 7), .int (z.1 25 8), .int (z.1 25 9), .ref (A 28), .int (z.1 25 11), .int (z.1 25 12), .int (z.1 25 13), .int (z.1 25 14), .int (z.1 25 15), .ref (A 29), .int (z.1 25 17), .ref (A 30), .ref (A 31), .ref (A 32), .int (z.1 25 21), .ref (A 33), .ref (A 34), .ref (A 35), .ref (A 36), .int (z.1 25 26), .ref (A 37), .ref (A 38), .ref (A 39), .long (z.2 25 30), .ref (A 40), .ref (A 41), .ref (A 42)] 26 (.int v))) = wAll A cI cJ cZ (sI z 25 26 v) := rfl
theorem ws_25_30 (A : Nat → Nat) (cI cJ cZ : ClassId) (z : Mem) (v : Int64) : (wAll A cI cJ cZ z).set 25 (A 25, .inr (9, List.set [.ref (A 26), .int (z.1 25 1), .int (z.1 25 2), .int (z.1 25 3), .int (z.1 25 4), .ref (A 27), .int (z.1 25 6), .int (z.1 25 7), .int (z.1 25 8), .int (z.1 25 9), .ref (A 28), .int (z.1 25 11), .int (z.1 25 12), .int (z.1 25 13), .int (z.1 25 14), .int (z.1 25 15), .ref (A 29), .int (z.1 25 17), .ref (A 30), .ref (A 31), .ref (A 32), .int (z.1 25 21), .ref (A 33), .ref (A 34), .ref (A 35), .ref (A 36), .int (z.1 25 26), .ref (A 37), .ref (A 38), .ref (A 39), .long (z.2 25 30), .ref (A 40), .ref (A 41), .ref (A 42)] 30 (.long v))) = wAll A cI cJ cZ (sL z 25 30 v) := rfl
theorem wa_26 (A : Nat → Nat) (cI cJ cZ : ClassId) (z : Mem) (k : Nat) (v : Int32) : (wAll A cI cJ cZ z).set 26 (A 26, .inl (cI, 26, .inl (upd (z.1 26) k v))) = wAll A cI cJ cZ (sI z 26 k v) := rfl
theorem wr_26 (A : Nat → Nat) (cI cJ cZ : ClassId) (z : Mem) (f : Nat → Int32) : (wAll A cI cJ cZ z).set 26 (A 26, .inl (cI, 26, .inl f)) = wAll A cI cJ cZ (sR z 26 f) := rfl
theorem wa_27 (A : Nat → Nat) (cI cJ cZ : ClassId) (z : Mem) (k : Nat) (v : Int32) : (wAll A cI cJ cZ z).set 27 (A 27, .inl (cI, 26, .inl (upd (z.1 27) k v))) = wAll A cI cJ cZ (sI z 27 k v) := rfl
theorem wr_27 (A : Nat → Nat) (cI cJ cZ : ClassId) (z : Mem) (f : Nat → Int32) : (wAll A cI cJ cZ z).set 27 (A 27, .inl (cI, 26, .inl f)) = wAll A cI cJ cZ (sR z 27 f) := rfl
theorem wa_28 (A : Nat → Nat) (cI cJ cZ : ClassId) (z : Mem) (k : Nat) (v : Int32) : (wAll A cI cJ cZ z).set 28 (A 28, .inl (cI, 48, .inl (upd (z.1 28) k v))) = wAll A cI cJ cZ (sI z 28 k v) := rfl
theorem wr_28 (A : Nat → Nat) (cI cJ cZ : ClassId) (z : Mem) (f : Nat → Int32) : (wAll A cI cJ cZ z).set 28 (A 28, .inl (cI, 48, .inl f)) = wAll A cI cJ cZ (sR z 28 f) := rfl
theorem wa_29 (A : Nat → Nat) (cI cJ cZ : ClassId) (z : Mem) (k : Nat) (v : Int32) : (wAll A cI cJ cZ z).set 29 (A 29, .inl (cI, 416, .inl (upd (z.1 29) k v))) = wAll A cI cJ cZ (sI z 29 k v) := rfl
theorem wr_29 (A : Nat → Nat) (cI cJ cZ : ClassId) (z : Mem) (f : Nat → Int32) : (wAll A cI cJ cZ z).set 29 (A 29, .inl (cI, 416, .inl f)) = wAll A cI cJ cZ (sR z 29 f) := rfl
theorem wa_30 (A : Nat → Nat) (cI cJ cZ : ClassId) (z : Mem) (k : Nat) (v : Int32) : (wAll A cI cJ cZ z).set 30 (A 30, .inl (cI, 10, .inl (upd (z.1 30) k v))) = wAll A cI cJ cZ (sI z 30 k v) := rfl
theorem wr_30 (A : Nat → Nat) (cI cJ cZ : ClassId) (z : Mem) (f : Nat → Int32) : (wAll A cI cJ cZ z).set 30 (A 30, .inl (cI, 10, .inl f)) = wAll A cI cJ cZ (sR z 30 f) := rfl
theorem wa_31 (A : Nat → Nat) (cI cJ cZ : ClassId) (z : Mem) (k : Nat) (v : Int32) : (wAll A cI cJ cZ z).set 31 (A 31, .inl (cI, 10, .inl (upd (z.1 31) k v))) = wAll A cI cJ cZ (sI z 31 k v) := rfl
theorem wr_31 (A : Nat → Nat) (cI cJ cZ : ClassId) (z : Mem) (f : Nat → Int32) : (wAll A cI cJ cZ z).set 31 (A 31, .inl (cI, 10, .inl f)) = wAll A cI cJ cZ (sR z 31 f) := rfl
theorem wa_32 (A : Nat → Nat) (cI cJ cZ : ClassId) (z : Mem) (k : Nat) (v : Int32) : (wAll A cI cJ cZ z).set 32 (A 32, .inl (cI, 10, .inl (upd (z.1 32) k v))) = wAll A cI cJ cZ (sI z 32 k v) := rfl
theorem wr_32 (A : Nat → Nat) (cI cJ cZ : ClassId) (z : Mem) (f : Nat → Int32) : (wAll A cI cJ cZ z).set 32 (A 32, .inl (cI, 10, .inl f)) = wAll A cI cJ cZ (sR z 32 f) := rfl
theorem wa_33 (A : Nat → Nat) (cI cJ cZ : ClassId) (z : Mem) (k : Nat) (v : Int32) : (wAll A cI cJ cZ z).set 33 (A 33, .inl (cI, 8, .inl (upd (z.1 33) k v))) = wAll A cI cJ cZ (sI z 33 k v) := rfl
theorem wr_33 (A : Nat → Nat) (cI cJ cZ : ClassId) (z : Mem) (f : Nat → Int32) : (wAll A cI cJ cZ z).set 33 (A 33, .inl (cI, 8, .inl f)) = wAll A cI cJ cZ (sR z 33 f) := rfl
theorem wa_34 (A : Nat → Nat) (cI cJ cZ : ClassId) (z : Mem) (k : Nat) (v : Int32) : (wAll A cI cJ cZ z).set 34 (A 34, .inl (cI, 8, .inl (upd (z.1 34) k v))) = wAll A cI cJ cZ (sI z 34 k v) := rfl
theorem wr_34 (A : Nat → Nat) (cI cJ cZ : ClassId) (z : Mem) (f : Nat → Int32) : (wAll A cI cJ cZ z).set 34 (A 34, .inl (cI, 8, .inl f)) = wAll A cI cJ cZ (sR z 34 f) := rfl
theorem wa_35 (A : Nat → Nat) (cI cJ cZ : ClassId) (z : Mem) (k : Nat) (v : Int32) : (wAll A cI cJ cZ z).set 35 (A 35, .inl (cI, 5, .inl (upd (z.1 35) k v))) = wAll A cI cJ cZ (sI z 35 k v) := rfl
theorem wr_35 (A : Nat → Nat) (cI cJ cZ : ClassId) (z : Mem) (f : Nat → Int32) : (wAll A cI cJ cZ z).set 35 (A 35, .inl (cI, 5, .inl f)) = wAll A cI cJ cZ (sR z 35 f) := rfl
theorem wa_36 (A : Nat → Nat) (cI cJ cZ : ClassId) (z : Mem) (k : Nat) (v : Int32) : (wAll A cI cJ cZ z).set 36 (A 36, .inl (cI, 5, .inl (upd (z.1 36) k v))) = wAll A cI cJ cZ (sI z 36 k v) := rfl
theorem wr_36 (A : Nat → Nat) (cI cJ cZ : ClassId) (z : Mem) (f : Nat → Int32) : (wAll A cI cJ cZ z).set 36 (A 36, .inl (cI, 5, .inl f)) = wAll A cI cJ cZ (sR z 36 f) := rfl
theorem wa_37 (A : Nat → Nat) (cI cJ cZ : ClassId) (z : Mem) (k : Nat) (v : Int32) : (wAll A cI cJ cZ z).set 37 (A 37, .inl (cI, 4, .inl (upd (z.1 37) k v))) = wAll A cI cJ cZ (sI z 37 k v) := rfl
theorem wr_37 (A : Nat → Nat) (cI cJ cZ : ClassId) (z : Mem) (f : Nat → Int32) : (wAll A cI cJ cZ z).set 37 (A 37, .inl (cI, 4, .inl f)) = wAll A cI cJ cZ (sR z 37 f) := rfl
theorem wa_38 (A : Nat → Nat) (cI cJ cZ : ClassId) (z : Mem) (k : Nat) (v : Int64) : (wAll A cI cJ cZ z).set 38 (A 38, .inl (cJ, 2197, .inr (.inl (vp_updL (z.2 38) k v)))) = wAll A cI cJ cZ (sL z 38 k v) := rfl
theorem wa_39 (A : Nat → Nat) (cI cJ cZ : ClassId) (z : Mem) (k : Nat) (v : Int64) : (wAll A cI cJ cZ z).set 39 (A 39, .inl (cJ, 2197, .inr (.inl (vp_updL (z.2 39) k v)))) = wAll A cI cJ cZ (sL z 39 k v) := rfl
theorem wa_40 (A : Nat → Nat) (cI cJ cZ : ClassId) (z : Mem) (k : Nat) (v : Int32) : (wAll A cI cJ cZ z).set 40 (A 40, .inl (cI, 26, .inl (upd (z.1 40) k v))) = wAll A cI cJ cZ (sI z 40 k v) := rfl
theorem wr_40 (A : Nat → Nat) (cI cJ cZ : ClassId) (z : Mem) (f : Nat → Int32) : (wAll A cI cJ cZ z).set 40 (A 40, .inl (cI, 26, .inl f)) = wAll A cI cJ cZ (sR z 40 f) := rfl
theorem wa_41 (A : Nat → Nat) (cI cJ cZ : ClassId) (z : Mem) (k : Nat) (v : Int32) : (wAll A cI cJ cZ z).set 41 (A 41, .inl (cZ, 2, .inl (upd (z.1 41) k v))) = wAll A cI cJ cZ (sI z 41 k v) := rfl
theorem wa_42 (A : Nat → Nat) (cI cJ cZ : ClassId) (z : Mem) (k : Nat) (v : Int32) : (wAll A cI cJ cZ z).set 42 (A 42, .inl (cI, 52, .inl (upd (z.1 42) k v))) = wAll A cI cJ cZ (sI z 42 k v) := rfl
theorem wr_42 (A : Nat → Nat) (cI cJ cZ : ClassId) (z : Mem) (f : Nat → Int32) : (wAll A cI cJ cZ z).set 42 (A 42, .inl (cI, 52, .inl f)) = wAll A cI cJ cZ (sR z 42 f) := rfl
/-- which cells may change: the world's -/
def fr (A : Nat → Nat) : Nat → Prop := fun q => ∃ k, k < 43 ∧ A k = q
def dst (A : Nat → Nat) : Prop := ∀ i j, i < 43 → j < 43 → A i = A j → i = j
theorem wAll_len (A : Nat → Nat) (cI cJ cZ : ClassId) (z : Mem) : (wAll A cI cJ cZ z).length = 43 := rfl
theorem wAll_ad (A : Nat → Nat) (cI cJ cZ : ClassId) (z : Mem) : (wAll A cI cJ cZ z).map (fun p => p.1) = (List.range 43).map A := rfl
theorem wAll_at (A : Nat → Nat) (cI cJ cZ : ClassId) (z : Mem) {k : Nat} {q : Nat × va_E} (h : (wAll A cI cJ cZ z)[k]? = some q) : k < 43 ∧ q.1 = A k := by
  have hk : k < 43 := by
    have := (List.getElem?_eq_some_iff.mp h).1
    rw [wAll_len] at this
    exact this
  have h2 : ((wAll A cI cJ cZ z).map (fun p => p.1))[k]? = some q.1 := by rw [List.getElem?_map, h]; rfl
  rw [wAll_ad, List.getElem?_map, List.getElem?_range hk] at h2
  exact ⟨hk, (Option.some.inj h2).symm⟩
theorem wD {A : Nat → Nat} (hA : dst A) (cI cJ cZ : ClassId) (z : Mem) : va_D (fr A) (wAll A cI cJ cZ z) := by
  refine ⟨fun i j p q h1 h2 h3 => ?_, fun k q h => ?_⟩
  · obtain ⟨a1, a2⟩ := wAll_at A cI cJ cZ z h1
    obtain ⟨b1, b2⟩ := wAll_at A cI cJ cZ z h2
    exact hA i j a1 b1 (by rw [← a2, ← b2, h3])
  · obtain ⟨a1, a2⟩ := wAll_at A cI cJ cZ z h
    exact ⟨k, a1, a2.symm⟩
/-- the static row of strides: nobody writes it -/
def strI : Nat → Int32 := fun j => if j = 0 then 1 else if j = 1 then 13 else 169
def sZ (A : Nat → Nat) (t0 : Nat) (U : State) (H : Heap) : Prop := va_Z "LightestRules$RulersLine" "STRIDES" "[I" (.ref t0) (fr A) U H ∧ va_T .int t0 3 (fun j => .int (strI j)) (fr A) U H
theorem sZ.go {A : Nat → Nat} {t0 : Nat} {s U : State} {H : Heap} {locs : List Loc} (h : sZ A t0 s s.heap) (hS : va_S (fr A) s.heap H locs) (hvm : s.vm.Alike U.vm) : sZ A t0 U H :=
  ⟨va_Z.moved hvm (h.1.kept hS.2.1), va_T.moved hvm (h.2.kept hS.2.1)⟩
abbrev wIs (dC : Nat → ClassId) (dI : Nat → Nat → Nat) (A : Nat → Nat) (cI cJ cZ : ClassId) (z : Mem) (H : Heap) : Prop := va_P (dC, dI) vwCl (wAll A cI cJ cZ z) H
def wPre (dC : Nat → ClassId) (dI : Nat → Nat → Nat) (A : Nat → Nat) (t0 : Nat) (cI cJ cZ : ClassId) (z : Mem) (U : State) : Prop := wIs dC dI A cI cJ cZ z U.heap ∧ va_K (dC, dI) vwCl (tys cI cJ cZ) U ∧ sZ A t0 U U.heap
abbrev rmH (h : Nat) : Room := { frames := h, cells := 0, slots := 0, locals := 64 * h }
def MI (l : Launch) (dC : Nat → ClassId) (dI : Nat → Nat → Nat) (A : Nat → Nat) (t0 : Nat) (cI cJ cZ : ClassId) (y : MethodName) (ws : List Cond) (h : Nat) (as : List Value) (z : Mem) (r : Int32) (z1 : Mem) : Prop :=
  Met l y ws (rmH h) (va_Pc as (wPre dC dI A t0 cI cJ cZ z)) (va_Qi (fun r' (_ : Unit) => r' = r) (fun _ t => wIs dC dI A cI cJ cZ z1 t.heap) (fr A)) 0 0 (fr A)
def ML (l : Launch) (dC : Nat → ClassId) (dI : Nat → Nat → Nat) (A : Nat → Nat) (t0 : Nat) (cI cJ cZ : ClassId) (y : MethodName) (ws : List Cond) (h : Nat) (as : List Value) (z : Mem) (r : Int64) (z1 : Mem) : Prop :=
  Met l y ws (rmH h) (va_Pc as (wPre dC dI A t0 cI cJ cZ z)) (va_Ql (fun r' (_ : Unit) => r' = r) (fun _ t => wIs dC dI A cI cJ cZ z1 t.heap) (fr A)) 0 0 (fr A)
def MV (l : Launch) (dC : Nat → ClassId) (dI : Nat → Nat → Nat) (A : Nat → Nat) (t0 : Nat) (cI cJ cZ : ClassId) (y : MethodName) (ws : List Cond) (h : Nat) (as : List Value) (z : Mem) (z1 : Mem) : Prop :=
  Met l y ws (rmH h) (va_Pc as (wPre dC dI A t0 cI cJ cZ z)) (va_Qv (fun (_ : Unit) => True) (fun _ t => wIs dC dI A cI cJ cZ z1 t.heap) (fr A)) 0 0 (fr A)
theorem pre_blind (dC : Nat → ClassId) (dI : Nat → Nat → Nat) (A : Nat → Nat) (t0 : Nat) (cI cJ cZ : ClassId) (z : Mem) (as : List Value) : FrameBlind (va_Pc as (wPre dC dI A t0 cI cJ cZ z)) := fun a U g mk q =>
  ⟨q.1, q.2.1, va_K.moved (u := U) (U := U.calling g mk a) (Vm.Alike.refl U.vm) q.2.2.1, va_Z.moved (u := U) (U := U.calling g mk a) (Vm.Alike.refl U.vm) q.2.2.2.1, va_T.moved (u := U) (U := U.calling g mk a) (Vm.Alike.refl U.vm) q.2.2.2.2⟩
section SC
variable {p : Program} {l : Launch} {e : Env} {R : Room} {s : State} {m : MethodId} {args : Array Value} {below : List Frame} {meth : Method} {c : Code} {H : Heap} {locs : List Loc} {cells slots : Nat} {Q : State → Prop}
variable {dC : Nat → ClassId} {dI : Nat → Nat → Nat} {A : Nat → Nat} {t0 : Nat} {cI cJ cZ : ClassId} {cc : ByteArray} {pc nL n hh index maxL ci q0 : Nat} {ls : Array Slot} {rest st As fs : List Value} {z z1 : Mem} {Ts ws : List Cond} {own C : String} {y : MethodName} {bytes : ByteArray} {ret : Option FieldType} {b : Addr} {qq : vw_C}
theorem go_pre (hK : va_K (dC, dI) vwCl (tys cI cJ cZ) s) (hZ : sZ A t0 s s.heap) (hP : wIs dC dI A cI cJ cZ z H) (hS : va_S (fr A) s.heap H locs) (U : State) (hU : U.heap = H) (hW : s.WarmedH U.vm) : va_Pc As (wPre dC dI A t0 cI cJ cZ z) As.toArray U := by
  subst hU
  exact ⟨rfl, hP, va_K.moved hW.alike hK, hZ.go hS hW.alike⟩
theorem callVI {r : Int32} (S : CallFix p m c cc nL s args Ts own) (hM : MI l dC dI A t0 cI cJ cZ y ws hh (.ref b :: As) z r z1) (cw : CallW R s args own C index y bytes maxL ret ws (rmH hh) 0 0 n)
    (hK : va_K (dC, dI) vwCl (tys cI cJ cZ) s) (hZ : sZ A t0 s s.heap) (hP : wIs dC dI A cI cJ cZ z H) (hS : va_S (fr A) s.heap H locs) (hc : vwCl[ci]? = some qq) (he : (wAll A cI cJ cZ z)[q0]? = some (b, .inr (ci, fs))) (hC : qq.1 = C)
    (hst : st = As.reverse ++ .ref b :: rest) (hn : As.length = n) (hsz : ls.size = nL) (hw8 : (rest.map fun v => v.category).sum ≤ 8) (hcs : cells ≤ R.cells ∧ slots ≤ R.slots) (hdg : decode cc pc = .ok (.invokevirtual index, 3))
    (kk : ∀ (H1 : Heap) (locs1 : List Loc), wIs dC dI A cI cJ cZ z1 H1 → va_S (fr A) s.heap H1 locs1 → W p l e R s m args below meth c H1 locs1 cells slots Q (F0 m (pc + 3) ls (.int r :: rest))) : W p l e R s m args below meth c H locs cells slots Q (F0 m pc ls st) := by
  subst hC
  exact va_calli (A0 := fr A) (H0 := s.heap) (va_runV (g := F0 m pc ls st) (As := As) (rest := rest) S hM cw ⟨pre_blind dC dI A t0 cI cJ cZ z _, va_recv hK hP hc he, fun U hU hW => go_pre (As := .ref b :: As) hK hZ hP hS U hU hW⟩ rfl hn hsz hst (lv_room hw8) hdg hcs) hS (fun _ _ h => h) (fun _ h => h) (fun _ _ t H1 locs1 ht _ hw hB _ _ hS1 => by subst hw; exact kk H1 locs1 (by rw [← ht]; exact hB) hS1)
theorem callVL {r : Int64} (S : CallFix p m c cc nL s args Ts own) (hM : ML l dC dI A t0 cI cJ cZ y ws hh (.ref b :: As) z r z1) (cw : CallW R s args own C index y bytes maxL ret ws (rmH hh) 0 0 n)
    (hK : va_K (dC, dI) vwCl (tys cI cJ cZ) s) (hZ : sZ A t0 s s.heap) (hP : wIs dC dI A cI cJ cZ z H) (hS : va_S (fr A) s.heap H locs) (hc : vwCl[ci]? = some qq) (he : (wAll A cI cJ cZ z)[q0]? = some (b, .inr (ci, fs))) (hC : qq.1 = C)
    (hst : st = As.reverse ++ .ref b :: rest) (hn : As.length = n) (hsz : ls.size = nL) (hw8 : (rest.map fun v => v.category).sum ≤ 8) (hcs : cells ≤ R.cells ∧ slots ≤ R.slots) (hdg : decode cc pc = .ok (.invokevirtual index, 3))
    (kk : ∀ (H1 : Heap) (locs1 : List Loc), wIs dC dI A cI cJ cZ z1 H1 → va_S (fr A) s.heap H1 locs1 → W p l e R s m args below meth c H1 locs1 cells slots Q (F0 m (pc + 3) ls (.long r :: rest))) : W p l e R s m args below meth c H locs cells slots Q (F0 m pc ls st) := by
  subst hC
  exact va_calll (A0 := fr A) (H0 := s.heap) (va_runV (g := F0 m pc ls st) (As := As) (rest := rest) S hM cw ⟨pre_blind dC dI A t0 cI cJ cZ z _, va_recv hK hP hc he, fun U hU hW => go_pre (As := .ref b :: As) hK hZ hP hS U hU hW⟩ rfl hn hsz hst (lv_room hw8) hdg hcs) hS (fun _ _ h => h) (fun _ h => h) (fun _ _ t H1 locs1 ht _ hw hB _ _ hS1 => by subst hw; exact kk H1 locs1 (by rw [← ht]; exact hB) hS1)
theorem callVV (S : CallFix p m c cc nL s args Ts own) (hM : MV l dC dI A t0 cI cJ cZ y ws hh (.ref b :: As) z z1) (cw : CallW R s args own C index y bytes maxL ret ws (rmH hh) 0 0 n)
    (hK : va_K (dC, dI) vwCl (tys cI cJ cZ) s) (hZ : sZ A t0 s s.heap) (hP : wIs dC dI A cI cJ cZ z H) (hS : va_S (fr A) s.heap H locs) (hc : vwCl[ci]? = some qq) (he : (wAll A cI cJ cZ z)[q0]? = some (b, .inr (ci, fs))) (hC : qq.1 = C)
    (hst : st = As.reverse ++ .ref b :: rest) (hn : As.length = n) (hsz : ls.size = nL) (hw8 : (rest.map fun v => v.category).sum ≤ 8) (hcs : cells ≤ R.cells ∧ slots ≤ R.slots) (hdg : decode cc pc = .ok (.invokevirtual index, 3))
    (kk : ∀ (H1 : Heap) (locs1 : List Loc), wIs dC dI A cI cJ cZ z1 H1 → va_S (fr A) s.heap H1 locs1 → W p l e R s m args below meth c H1 locs1 cells slots Q (F0 m (pc + 3) ls rest)) : W p l e R s m args below meth c H locs cells slots Q (F0 m pc ls st) := by
  subst hC
  exact va_callv (A0 := fr A) (H0 := s.heap) (va_runV (g := F0 m pc ls st) (As := As) (rest := rest) S hM cw ⟨pre_blind dC dI A t0 cI cJ cZ z _, va_recv hK hP hc he, fun U hU hW => go_pre (As := .ref b :: As) hK hZ hP hS U hU hW⟩ rfl hn hsz hst (lv_room hw8) hdg hcs) hS (fun _ _ h => h) (fun _ h => h) (fun _ t H1 locs1 ht _ _ hB _ _ hS1 => kk H1 locs1 (by rw [← ht]; exact hB) hS1)
theorem callSI {r : Int32} (S : CallFix p m c cc nL s args Ts own) (hM : MI l dC dI A t0 cI cJ cZ y ws hh As z r z1) (cw : CallB R s args own index y bytes maxL ret ws (rmH hh) 0 0 n ∧ (Cond.static y).before args s = true)
    (hK : va_K (dC, dI) vwCl (tys cI cJ cZ) s) (hZ : sZ A t0 s s.heap) (hP : wIs dC dI A cI cJ cZ z H) (hS : va_S (fr A) s.heap H locs)
    (hst : st = As.reverse ++ rest) (hn : As.length = n) (hsz : ls.size = nL) (hw8 : (rest.map fun v => v.category).sum ≤ 8) (hcs : cells ≤ R.cells ∧ slots ≤ R.slots) (hdg : decode cc pc = .ok (.invokestatic index, 3))
    (kk : ∀ (H1 : Heap) (locs1 : List Loc), wIs dC dI A cI cJ cZ z1 H1 → va_S (fr A) s.heap H1 locs1 → W p l e R s m args below meth c H1 locs1 cells slots Q (F0 m (pc + 3) ls (.int r :: rest))) : W p l e R s m args below meth c H locs cells slots Q (F0 m pc ls st) := by
  exact va_calli (A0 := fr A) (H0 := s.heap) (va_runS (g := F0 m pc ls st) (As := As) (rest := rest) S hM cw ⟨pre_blind dC dI A t0 cI cJ cZ z _, fun U hU hW => go_pre (As := As) hK hZ hP hS U hU hW⟩ rfl hn hsz hst (lv_room hw8) hdg hcs) hS (fun _ _ h => h) (fun _ h => h) (fun _ _ t H1 locs1 ht _ hw hB _ _ hS1 => by subst hw; exact kk H1 locs1 (by rw [← ht]; exact hB) hS1)
theorem callSL {r : Int64} (S : CallFix p m c cc nL s args Ts own) (hM : ML l dC dI A t0 cI cJ cZ y ws hh As z r z1) (cw : CallB R s args own index y bytes maxL ret ws (rmH hh) 0 0 n ∧ (Cond.static y).before args s = true)
    (hK : va_K (dC, dI) vwCl (tys cI cJ cZ) s) (hZ : sZ A t0 s s.heap) (hP : wIs dC dI A cI cJ cZ z H) (hS : va_S (fr A) s.heap H locs)
    (hst : st = As.reverse ++ rest) (hn : As.length = n) (hsz : ls.size = nL) (hw8 : (rest.map fun v => v.category).sum ≤ 8) (hcs : cells ≤ R.cells ∧ slots ≤ R.slots) (hdg : decode cc pc = .ok (.invokestatic index, 3))
    (kk : ∀ (H1 : Heap) (locs1 : List Loc), wIs dC dI A cI cJ cZ z1 H1 → va_S (fr A) s.heap H1 locs1 → W p l e R s m args below meth c H1 locs1 cells slots Q (F0 m (pc + 3) ls (.long r :: rest))) : W p l e R s m args below meth c H locs cells slots Q (F0 m pc ls st) := by
  exact va_calll (A0 := fr A) (H0 := s.heap) (va_runS (g := F0 m pc ls st) (As := As) (rest := rest) S hM cw ⟨pre_blind dC dI A t0 cI cJ cZ z _, fun U hU hW => go_pre (As := As) hK hZ hP hS U hU hW⟩ rfl hn hsz hst (lv_room hw8) hdg hcs) hS (fun _ _ h => h) (fun _ h => h) (fun _ _ t H1 locs1 ht _ hw hB _ _ hS1 => by subst hw; exact kk H1 locs1 (by rw [← ht]; exact hB) hS1)
theorem callSV (S : CallFix p m c cc nL s args Ts own) (hM : MV l dC dI A t0 cI cJ cZ y ws hh As z z1) (cw : CallB R s args own index y bytes maxL ret ws (rmH hh) 0 0 n ∧ (Cond.static y).before args s = true)
    (hK : va_K (dC, dI) vwCl (tys cI cJ cZ) s) (hZ : sZ A t0 s s.heap) (hP : wIs dC dI A cI cJ cZ z H) (hS : va_S (fr A) s.heap H locs)
    (hst : st = As.reverse ++ rest) (hn : As.length = n) (hsz : ls.size = nL) (hw8 : (rest.map fun v => v.category).sum ≤ 8) (hcs : cells ≤ R.cells ∧ slots ≤ R.slots) (hdg : decode cc pc = .ok (.invokestatic index, 3))
    (kk : ∀ (H1 : Heap) (locs1 : List Loc), wIs dC dI A cI cJ cZ z1 H1 → va_S (fr A) s.heap H1 locs1 → W p l e R s m args below meth c H1 locs1 cells slots Q (F0 m (pc + 3) ls rest)) : W p l e R s m args below meth c H locs cells slots Q (F0 m pc ls st) := by
  exact va_callv (A0 := fr A) (H0 := s.heap) (va_runS (g := F0 m pc ls st) (As := As) (rest := rest) S hM cw ⟨pre_blind dC dI A t0 cI cJ cZ z _, fun U hU hW => go_pre (As := As) hK hZ hP hS U hU hW⟩ rfl hn hsz hst (lv_room hw8) hdg hcs) hS (fun _ _ h => h) (fun _ h => h) (fun _ t H1 locs1 ht _ _ hB _ _ hS1 => kk H1 locs1 (by rw [← ht]; exact hB) hS1)
theorem retI {v r : Int32} (hx : p.tables.exec = Jvm.exec) (hb : c.code = cc) (hr : meth.sig.returnType = some .int) (hlocks : meth.locks = false) (hP : wIs dC dI A cI cJ cZ z H) (hS : va_S (fr A) s.heap H locs) (hf : some (v, z) = some (r, z1)) (hdg : decode cc pc = .ok (.ireturn, 1)) :
    W p l e R s m args below meth c H locs 0 0 (MQ below (va_Qi (fun r' (_ : Unit) => r' = r) (fun _ t => wIs dC dI A cI cJ cZ z1 t.heap) (fr A)) args s 0 0 (fr A)) (F0 m pc ls [.int v]) := by
  obtain ⟨rfl, rfl⟩ := rt_el hf
  exact W.iret hx hb hr (fun t ht hW => ⟨⟨v, (), rfl, rfl, by subst ht; exact hP⟩, hS.F ht⟩) hS.2.2 hdg hlocks
theorem retZ {v r : Int32} (hx : p.tables.exec = Jvm.exec) (hb : c.code = cc) (hr : meth.sig.returnType = some .boolean) (hlocks : meth.locks = false) (hnn : narrow .boolean (.int v) = .int v) (hP : wIs dC dI A cI cJ cZ z H) (hS : va_S (fr A) s.heap H locs) (hf : some (v, z) = some (r, z1)) (hdg : decode cc pc = .ok (.ireturn, 1)) :
    W p l e R s m args below meth c H locs 0 0 (MQ below (va_Qi (fun r' (_ : Unit) => r' = r) (fun _ t => wIs dC dI A cI cJ cZ z1 t.heap) (fr A)) args s 0 0 (fr A)) (F0 m pc ls [.int v]) := by
  obtain ⟨rfl, rfl⟩ := rt_el hf
  exact W.zret hx hb hr hnn (fun t ht hW => ⟨⟨v, (), rfl, rfl, by subst ht; exact hP⟩, hS.F ht⟩) hS.2.2 hdg hlocks
theorem retL {v r : Int64} (hx : p.tables.exec = Jvm.exec) (hb : c.code = cc) (hr : meth.sig.returnType = some .long) (hlocks : meth.locks = false) (hP : wIs dC dI A cI cJ cZ z H) (hS : va_S (fr A) s.heap H locs) (hf : some (v, z) = some (r, z1)) (hdg : decode cc pc = .ok (.lreturn, 1)) :
    W p l e R s m args below meth c H locs 0 0 (MQ below (va_Ql (fun r' (_ : Unit) => r' = r) (fun _ t => wIs dC dI A cI cJ cZ z1 t.heap) (fr A)) args s 0 0 (fr A)) (F0 m pc ls [.long v]) := by
  obtain ⟨rfl, rfl⟩ := rt_el hf
  exact W.lret hx hb hr (fun t ht hW => ⟨⟨v, (), rfl, rfl, by subst ht; exact hP⟩, hS.F ht⟩) hS.2.2 hdg hlocks
theorem retV {u : Unit} (hx : p.tables.exec = Jvm.exec) (hb : c.code = cc) (hr : meth.sig.returnType = none) (hlocks : meth.locks = false) (hP : wIs dC dI A cI cJ cZ z H) (hS : va_S (fr A) s.heap H locs) (hf : some ((), z) = some (u, z1)) (hdg : decode cc pc = .ok (.return_, 1)) :
    W p l e R s m args below meth c H locs 0 0 (MQ below (va_Qv (fun (_ : Unit) => True) (fun _ t => wIs dC dI A cI cJ cZ z1 t.heap) (fr A)) args s 0 0 (fr A)) (F0 m pc ls []) := by
  obtain ⟨-, rfl⟩ := rt_el hf
  exact W.vret hx hb hr (fun t ht hW => ⟨⟨(), rfl, trivial, by subst ht; exact hP⟩, hS.F ht⟩) hS.2.2 hdg hlocks
end SC
