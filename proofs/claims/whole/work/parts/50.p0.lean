/-! ===== the pure side: basics ===== -/
theorem sI1 (z : Mem) (q k : Nat) (v : Int32) (a : Nat) : (sI z q k v).1 a = if a = q then upd (z.1 q) k v else z.1 a := rfl
theorem sI2 (z : Mem) (q k : Nat) (v : Int32) : (sI z q k v).2 = z.2 := rfl
theorem sR1 (z : Mem) (q : Nat) (f : Nat → Int32) (a : Nat) : (sR z q f).1 a = if a = q then f else z.1 a := rfl
theorem sR2 (z : Mem) (q : Nat) (f : Nat → Int32) : (sR z q f).2 = z.2 := rfl
theorem sL1 (z : Mem) (q k : Nat) (v : Int64) : (sL z q k v).1 = z.1 := rfl
theorem sL2 (z : Mem) (q k : Nat) (v : Int64) (a : Nat) : (sL z q k v).2 a = if a = q then vp_updL (z.2 q) k v else z.2 a := rfl
theorem up1 (f : Nat → Int32) (k : Nat) (x : Int32) (j : Nat) : upd f k x j = if j = k then x else f j := rfl
theorem upL1 (f : Nat → Int64) (k : Nat) (x : Int64) (j : Nat) : vp_updL f k x j = if j = k then x else f j := rfl
theorem cls {α β : Type} (r : α) (z : Mem) (k : α → Mem → Option β) : cl (some (r, z)) k = k r z := rfl
theorem lts {α β : Type} (v : α) (k : α → Option β) : lt v k = k v := rfl
theorem jns {α β : Type} (K : α) (b : α → β) : jn K b = b K := rfl
theorem rgs {β : Type} {n N : Nat} (h : n < N) (hN : N < 2 ^ 31) (k : Option β) : rg (nI n) N k = k := by
  unfold rg
  rw [if_neg (vp_in_nI h hN)]
theorem nzs {β : Type} {y : Int32} (h : ¬ y = 0) (k : Option β) : nz y k = k := if_neg h
theorem nlit (n : Nat) : (OfNat.ofNat n : Int32) = nI n := rfl
theorem clamp {n : Nat} (h : n < 2 ^ 31) : (nI n).toNatClampNeg = n := nI_clamp h
theorem toI {n : Nat} (h : n < 2 ^ 31) : (nI n).toInt = (n : Int) := nI_toInt h
/-- a nonnegative int is a number -/
theorem of_nn {x : Int32} (h : ¬ x < 0) : ∃ n : Nat, n < 2 ^ 31 ∧ x = nI n := nI_of h
/-! ===== what a state is ===== -/
/-- scalars (0 length of the text, 1 people, 2 burn, 3 ill, 4 law, 5 acts, 6 weighings, 7 searches, 8 months, 9 and 10 kept); rows (0 text, 1 cells, 2 acts, 3 kept, 4 5 6 weighings, 7 8 searches, 9 rulers); the seed -/
abbrev AS : Type := (Nat → Nat) × (Nat → Nat → Nat) × Int64
def sS (S : AS) (i v : Nat) : AS := (fun j => if j = i then v else S.1 j, S.2)
def sT (S : AS) (i : Nat) (f : Nat → Nat) : AS := (S.1, fun j => if j = i then f else S.2.1 j, S.2.2)
def sV (S : AS) (v : Int64) : AS := (S.1, S.2.1, v)
theorem sS1 (S : AS) (i v j : Nat) : (sS S i v).1 j = if j = i then v else S.1 j := rfl
theorem sS2 (S : AS) (i v : Nat) : (sS S i v).2 = S.2 := rfl
theorem sT1 (S : AS) (i : Nat) (f : Nat → Nat) : (sT S i f).1 = S.1 := rfl
theorem sT2 (S : AS) (i : Nat) (f : Nat → Nat) (j : Nat) : (sT S i f).2.1 j = if j = i then f else S.2.1 j := rfl
theorem sT3 (S : AS) (i : Nat) (f : Nat → Nat) : (sT S i f).2.2 = S.2.2 := rfl
theorem sV1 (S : AS) (v : Int64) : (sV S v).1 = S.1 := rfl
theorem sV2 (S : AS) (v : Int64) : (sV S v).2.1 = S.2.1 := rfl
theorem sV3 (S : AS) (v : Int64) : (sV S v).2.2 = v := rfl
/-- the places that count: of people that are there, and the day -/
def ix (m j : Nat) : Prop := j < 5 * m ∨ j = 25
/-- the bounds of a row of cells behind k calls -/
def CB (k m : Nat) (c : Nat → Nat) : Prop := (∀ p, p < m → 1 ≤ c (5 * p) ∧ c (5 * p) ≤ 1000 + 72 * k ∧ c (5 * p + 1) ≤ 9 ∧ c (5 * p + 2) ≤ 9 ∧ c (5 * p + 3) ≤ 90 ∧ c (5 * p + 4) ≤ k) ∧ c 25 ≤ k
def Gt (S : AS) : Prop := S.1 0 ≤ 48 ∧ ∀ j, j < S.1 0 → S.2.1 0 j < 256
def Gf (k : Nat) (S : AS) : Prop := S.1 1 ≤ 5 ∧ S.1 2 ≤ 9 ∧ S.1 3 ≤ 9 ∧ S.1 4 ≤ 2 ∧ CB k (S.1 1) (S.2.1 1)
def Ga (k : Nat) (S : AS) : Prop := S.1 5 ≤ 16 ∧ ∀ i, i < S.1 5 → CB k (S.1 1) (fun j => S.2.1 2 (26 * i + j))
def Gs (k : Nat) (S : AS) : Prop := S.1 9 ≤ 1 ∧ S.1 10 ≤ 1 ∧ (S.1 9 = 1 → CB k (S.1 1) (fun j => S.2.1 3 j)) ∧ (S.1 10 = 1 → CB k (S.1 1) (fun j => S.2.1 3 (26 + j)))
def ones9 (x : Nat) : Nat := x % 2 + x / 2 % 2 + x / 4 % 2 + x / 8 % 2 + x / 16 % 2 + x / 32 % 2 + x / 64 % 2 + x / 128 % 2 + x / 256 % 2
def wOk (a b c : Nat) : Prop := 1 ≤ a ∧ a ≤ 511 ∧ 1 ≤ b ∧ b ≤ 511 ∧ a &&& b = 0 ∧ ones9 a = ones9 b ∧ c ≤ 2
def Gw (S : AS) : Prop := S.1 6 ≤ 10 ∧ ∀ j, j < S.1 6 → wOk (S.2.1 4 j) (S.2.1 5 j) (S.2.1 6 j)
def Gq (S : AS) : Prop := S.1 7 ≤ 8 ∧ ∀ j, j < S.1 7 → 1 ≤ S.2.1 7 j ∧ S.2.1 7 j ≤ 31 ∧ S.2.1 8 j ≤ 45
def Gl (S : AS) : Prop := S.1 8 ≤ 4 ∧ ∀ j, j < S.1 8 → S.2.1 9 j ≤ 4
def G (k : Nat) (S : AS) : Prop := Gt S ∧ Gf k S ∧ Ga k S ∧ Gs k S ∧ Gw S ∧ Gq S ∧ Gl S
/-- the digit of a row of stones, and whether a row fits the searches -/
def dg (code k : Nat) : Nat := code / 10 ^ k % 10
def togN (set code : Nat) : Nat := (set % 2) * dg code 0 + (set / 2 % 2) * dg code 1 + (set / 4 % 2) * dg code 2 + (set / 8 % 2) * dg code 3 + (set / 16 % 2) * dg code 4
def fitN (S : AS) (code : Nat) : Bool := (List.range (S.1 7)).all (fun s => decide (togN (S.2.1 7 s) code = S.2.1 8 s))
def rowsN (S : AS) : Nat := ((List.range 100000).filter (fun c => fitN S c)).length
def isLeast (S : AS) (one v : Nat) : Prop := (∃ c, c < 100000 ∧ fitN S c = true ∧ dg c one = v) ∧ ∀ c, c < 100000 → fitN S c = true → v ≤ dg c one
def isMost (S : AS) (one v : Nat) : Prop := (∃ c, c < 100000 ∧ fitN S c = true ∧ dg c one = v) ∧ ∀ c, c < 100000 → fitN S c = true → dg c one ≤ v
/-! the class's memory -/
def Ct (S : AS) (z : Mem) : Prop := z.1 1 1 = nI (S.1 0) ∧ ∀ j, j < S.1 0 → z.1 10 j = nI (S.2.1 0 j)
def Cf (S : AS) (z : Mem) : Prop := z.1 2 1 = nI (S.1 1) ∧ z.1 2 2 = nI (S.1 2) ∧ z.1 2 3 = nI (S.1 3) ∧ z.1 0 8 = nI (S.1 4) ∧ ∀ j, ix (S.1 1) j → z.1 11 j = nI (S.2.1 1 j)
def Ca (S : AS) (z : Mem) : Prop := ∃ f, f < 16 ∧ z.1 3 1 = nI f ∧ z.1 3 2 = nI (S.1 5) ∧ ∀ i, i < S.1 5 → ∀ j, ix (S.1 1) j → z.1 12 (26 * ((f + i) % 16) + j) = nI (S.2.1 2 (26 * i + j))
def Cs (S : AS) (z : Mem) : Prop := z.1 4 1 = nI (S.1 9 + 2 * S.1 10) ∧ (S.1 9 = 1 → ∀ j, ix (S.1 1) j → z.1 13 j = nI (S.2.1 3 j)) ∧ (S.1 10 = 1 → ∀ j, ix (S.1 1) j → z.1 13 (26 + j) = nI (S.2.1 3 (26 + j)))
def Cw (S : AS) (z : Mem) : Prop := z.1 5 3 = nI (S.1 6) ∧ ∀ j, j < S.1 6 → z.1 14 j = nI (S.2.1 4 j) ∧ z.1 15 j = nI (S.2.1 5 j) ∧ z.1 16 j = nI (S.2.1 6 j)
def Cq (S : AS) (z : Mem) : Prop := z.1 6 4 = nI (S.1 7) ∧ (∀ j, j < S.1 7 → z.1 17 j = nI (S.2.1 7 j) ∧ z.1 18 j = nI (S.2.1 8 j)) ∧ (z.1 6 6 = 0 ∨ (¬ z.1 6 6 = 0 ∧ z.1 6 5 = nI (rowsN S) ∧ (rowsN S ≠ 0 → ∀ one, one < 5 → ∃ a b, z.1 19 one = nI a ∧ isLeast S one a ∧ z.1 20 one = nI b ∧ isMost S one b)))
def Cl (S : AS) (z : Mem) : Prop := z.1 7 3 = nI (S.1 8) ∧ ∀ j, j < S.1 8 → z.1 21 j = nI (S.2.1 9 j)
def Cy (S : AS) (z : Mem) : Prop := z.2 8 1 = S.2.2
def C (S : AS) (z : Mem) : Prop := Ct S z ∧ Cf S z ∧ Ca S z ∧ Cs S z ∧ Cw S z ∧ Cq S z ∧ Cl S z ∧ Cy S z
/-! the reference's memory -/
def Rt (S : AS) (z : Mem) : Prop := z.1 25 11 = nI (S.1 0) ∧ ∀ j, j < S.1 0 → z.1 28 j = nI (S.2.1 0 j)
def Rf (S : AS) (z : Mem) : Prop := z.1 25 6 = nI (S.1 1) ∧ z.1 25 8 = nI (S.1 2) ∧ z.1 25 9 = nI (S.1 3) ∧ z.1 25 7 = nI (S.1 4) ∧ ∀ j, ix (S.1 1) j → z.1 27 j = nI (S.2.1 1 j)
def Ra (S : AS) (z : Mem) : Prop := ∃ f, f < 16 ∧ z.1 25 15 = nI f ∧ z.1 25 14 = nI (S.1 5) ∧ ∀ i, i < S.1 5 → ∀ j, ix (S.1 1) j → z.1 29 (26 * ((f + 16 - S.1 5 + i) % 16) + j) = nI (S.2.1 2 (26 * i + j))
def Rs (S : AS) (z : Mem) : Prop := z.1 41 0 = nI (S.1 9) ∧ z.1 41 1 = nI (S.1 10) ∧ (S.1 9 = 1 → ∀ j, ix (S.1 1) j → z.1 42 j = nI (S.2.1 3 j)) ∧ (S.1 10 = 1 → ∀ j, ix (S.1 1) j → z.1 42 (26 + j) = nI (S.2.1 3 (26 + j)))
def Rw (S : AS) (z : Mem) : Prop := z.1 25 17 = nI (S.1 6) ∧ ∀ j, j < S.1 6 → z.1 30 j = nI (S.2.1 4 j) ∧ z.1 31 j = nI (S.2.1 5 j) ∧ z.1 32 j = nI (S.2.1 6 j)
def Rq (S : AS) (z : Mem) : Prop := z.1 25 21 = nI (S.1 7) ∧ ∀ j, j < S.1 7 → z.1 33 j = nI (S.2.1 7 j) ∧ z.1 34 j = nI (S.2.1 8 j)
def Rl (S : AS) (z : Mem) : Prop := z.1 25 26 = nI (S.1 8) ∧ ∀ j, j < S.1 8 → z.1 37 j = nI (S.2.1 9 j)
def Ry (S : AS) (z : Mem) : Prop := z.2 25 30 = S.2.2
def Rr (S : AS) (z : Mem) : Prop := Rt S z ∧ Rf S z ∧ Ra S z ∧ Rs S z ∧ Rw S z ∧ Rq S z ∧ Rl S z ∧ Ry S z
def Inv (k : Nat) (z : Mem) : Prop := ∃ S, G k S ∧ C S z ∧ Rr S z
/-- nothing of the reference's (of the class's) has changed -/
def AgM (z z1 : Mem) : Prop := ∀ q, 25 ≤ q → z1.1 q = z.1 q ∧ z1.2 q = z.2 q
def AgC (z z1 : Mem) : Prop := ∀ q, q < 25 → z1.1 q = z.1 q ∧ z1.2 q = z.2 q
theorem AgM.rf (z : Mem) : AgM z z := fun _ _ => ⟨rfl, rfl⟩
theorem AgC.rf (z : Mem) : AgC z z := fun _ _ => ⟨rfl, rfl⟩
theorem AgM.tr {a b c : Mem} (h : AgM a b) (g : AgM b c) : AgM a c := fun q hq => ⟨(g q hq).1.trans (h q hq).1, (g q hq).2.trans (h q hq).2⟩
theorem AgC.tr {a b c : Mem} (h : AgC a b) (g : AgC b c) : AgC a c := fun q hq => ⟨(g q hq).1.trans (h q hq).1, (g q hq).2.trans (h q hq).2⟩
theorem AgM.sI (z : Mem) {q : Nat} (k : Nat) (v : Int32) (h : q < 25) : AgM z (sI z q k v) := fun a ha => ⟨if_neg (by omega), rfl⟩
theorem AgM.sR (z : Mem) {q : Nat} (f : Nat → Int32) (h : q < 25) : AgM z (sR z q f) := fun a ha => ⟨if_neg (by omega), rfl⟩
theorem AgM.sL (z : Mem) {q : Nat} (k : Nat) (v : Int64) (h : q < 25) : AgM z (sL z q k v) := fun a ha => ⟨rfl, if_neg (by omega)⟩
theorem AgC.sI (z : Mem) {q : Nat} (k : Nat) (v : Int32) (h : 25 ≤ q) : AgC z (sI z q k v) := fun a ha => ⟨if_neg (by omega), rfl⟩
theorem AgC.sR (z : Mem) {q : Nat} (f : Nat → Int32) (h : 25 ≤ q) : AgC z (sR z q f) := fun a ha => ⟨if_neg (by omega), rfl⟩
theorem AgC.sL (z : Mem) {q : Nat} (k : Nat) (v : Int64) (h : 25 ≤ q) : AgC z (sL z q k v) := fun a ha => ⟨rfl, if_neg (by omega)⟩
/-- which places stay: a list of those that may have changed -/
def Out (Q : List Nat) (z z1 : Mem) : Prop := ∀ q, q ∉ Q → z1.1 q = z.1 q ∧ z1.2 q = z.2 q
theorem Out.rf (Q : List Nat) (z : Mem) : Out Q z z := fun _ _ => ⟨rfl, rfl⟩
theorem Out.tr {Q : List Nat} {a b c : Mem} (h : Out Q a b) (g : Out Q b c) : Out Q a c := fun q hq => ⟨(g q hq).1.trans (h q hq).1, (g q hq).2.trans (h q hq).2⟩
theorem Out.sI (Q : List Nat) (z : Mem) {q : Nat} (k : Nat) (v : Int32) (h : q ∈ Q) : Out Q z (sI z q k v) := fun a ha => ⟨if_neg (fun e => ha (by rw [e]; exact h)), rfl⟩
theorem Out.sR (Q : List Nat) (z : Mem) {q : Nat} (f : Nat → Int32) (h : q ∈ Q) : Out Q z (sR z q f) := fun a ha => ⟨if_neg (fun e => ha (by rw [e]; exact h)), rfl⟩
theorem Out.sL (Q : List Nat) (z : Mem) {q : Nat} (k : Nat) (v : Int64) (h : q ∈ Q) : Out Q z (sL z q k v) := fun a ha => ⟨rfl, if_neg (fun e => ha (by rw [e]; exact h))⟩
theorem Out.more {Q Q' : List Nat} {z z1 : Mem} (h : Out Q z z1) (hQ : ∀ q ∈ Q, q ∈ Q') : Out Q' z z1 := fun q hq => h q (fun e => hq (hQ q e))
theorem Out.M {Q : List Nat} {z z1 : Mem} (h : Out Q z z1) (hQ : ∀ q ∈ Q, q < 25) : AgM z z1 := fun q hq => h q (fun e => absurd (hQ q e) (by omega))
theorem Out.C {Q : List Nat} {z z1 : Mem} (h : Out Q z z1) (hQ : ∀ q ∈ Q, 25 ≤ q) : AgC z z1 := fun q hq => h q (fun e => absurd (hQ q e) (by omega))
theorem Ct.go {S : AS} {z z1 : Mem} (h : Ct S z) (a : z1.1 1 = z.1 1) (b : z1.1 10 = z.1 10) : Ct S z1 := by unfold Ct at *; rw [a, b]; exact h
theorem Cf.go {S : AS} {z z1 : Mem} (h : Cf S z) (a : z1.1 2 = z.1 2) (b : z1.1 0 = z.1 0) (c : z1.1 11 = z.1 11) : Cf S z1 := by unfold Cf at *; rw [a, b, c]; exact h
theorem Ca.go {S : AS} {z z1 : Mem} (h : Ca S z) (a : z1.1 3 = z.1 3) (b : z1.1 12 = z.1 12) : Ca S z1 := by unfold Ca at *; rw [a, b]; exact h
theorem Cs.go {S : AS} {z z1 : Mem} (h : Cs S z) (a : z1.1 4 = z.1 4) (b : z1.1 13 = z.1 13) : Cs S z1 := by unfold Cs at *; rw [a, b]; exact h
theorem Cw.go {S : AS} {z z1 : Mem} (h : Cw S z) (a : z1.1 5 = z.1 5) (b : z1.1 14 = z.1 14) (c : z1.1 15 = z.1 15) (d : z1.1 16 = z.1 16) : Cw S z1 := by unfold Cw at *; rw [a, b, c, d]; exact h
theorem Cq.go {S : AS} {z z1 : Mem} (h : Cq S z) (a : z1.1 6 = z.1 6) (b : z1.1 17 = z.1 17) (c : z1.1 18 = z.1 18) (d : z1.1 19 = z.1 19) (e : z1.1 20 = z.1 20) : Cq S z1 := by unfold Cq at *; rw [a, b, c, d, e]; exact h
theorem Cl.go {S : AS} {z z1 : Mem} (h : Cl S z) (a : z1.1 7 = z.1 7) (b : z1.1 21 = z.1 21) : Cl S z1 := by unfold Cl at *; rw [a, b]; exact h
theorem Cy.go {S : AS} {z z1 : Mem} (h : Cy S z) (a : z1.2 8 = z.2 8) : Cy S z1 := by unfold Cy at *; rw [a]; exact h
theorem Rt.go {S : AS} {z z1 : Mem} (h : Rt S z) (a : z1.1 25 11 = z.1 25 11) (b : z1.1 28 = z.1 28) : Rt S z1 := by unfold Rt at *; rw [a, b]; exact h
theorem Rf.go {S : AS} {z z1 : Mem} (h : Rf S z) (a : z1.1 25 6 = z.1 25 6) (b : z1.1 25 8 = z.1 25 8) (c : z1.1 25 9 = z.1 25 9) (d : z1.1 25 7 = z.1 25 7) (e : z1.1 27 = z.1 27) : Rf S z1 := by unfold Rf at *; rw [a, b, c, d, e]; exact h
theorem Ra.go {S : AS} {z z1 : Mem} (h : Ra S z) (a : z1.1 25 15 = z.1 25 15) (b : z1.1 25 14 = z.1 25 14) (c : z1.1 29 = z.1 29) : Ra S z1 := by unfold Ra at *; rw [a, b, c]; exact h
theorem Rs.go {S : AS} {z z1 : Mem} (h : Rs S z) (a : z1.1 41 = z.1 41) (b : z1.1 42 = z.1 42) : Rs S z1 := by unfold Rs at *; rw [a, b]; exact h
theorem Rw.go {S : AS} {z z1 : Mem} (h : Rw S z) (a : z1.1 25 17 = z.1 25 17) (b : z1.1 30 = z.1 30) (c : z1.1 31 = z.1 31) (d : z1.1 32 = z.1 32) : Rw S z1 := by unfold Rw at *; rw [a, b, c, d]; exact h
theorem Rq.go {S : AS} {z z1 : Mem} (h : Rq S z) (a : z1.1 25 21 = z.1 25 21) (b : z1.1 33 = z.1 33) (c : z1.1 34 = z.1 34) : Rq S z1 := by unfold Rq at *; rw [a, b, c]; exact h
theorem Rl.go {S : AS} {z z1 : Mem} (h : Rl S z) (a : z1.1 25 26 = z.1 25 26) (b : z1.1 37 = z.1 37) : Rl S z1 := by unfold Rl at *; rw [a, b]; exact h
theorem Ry.go {S : AS} {z z1 : Mem} (h : Ry S z) (a : z1.2 25 = z.2 25) : Ry S z1 := by unfold Ry at *; rw [a]; exact h
theorem C.ag {S : AS} {z z1 : Mem} (h : C S z) (a : AgC z z1) : C S z1 := by
  obtain ⟨h1, h2, h3, h4, h5, h6, h7, h8⟩ := h
  exact ⟨h1.go (a 1 (by decide)).1 (a 10 (by decide)).1, h2.go (a 2 (by decide)).1 (a 0 (by decide)).1 (a 11 (by decide)).1, h3.go (a 3 (by decide)).1 (a 12 (by decide)).1, h4.go (a 4 (by decide)).1 (a 13 (by decide)).1,
    h5.go (a 5 (by decide)).1 (a 14 (by decide)).1 (a 15 (by decide)).1 (a 16 (by decide)).1, h6.go (a 6 (by decide)).1 (a 17 (by decide)).1 (a 18 (by decide)).1 (a 19 (by decide)).1 (a 20 (by decide)).1, h7.go (a 7 (by decide)).1 (a 21 (by decide)).1, h8.go (a 8 (by decide)).2⟩
theorem Rr.ag {S : AS} {z z1 : Mem} (h : Rr S z) (a : AgM z z1) : Rr S z1 := by
  obtain ⟨h1, h2, h3, h4, h5, h6, h7, h8⟩ := h
  have e := (a 25 (by decide)).1
  exact ⟨h1.go (by rw [e]) (a 28 (by decide)).1, h2.go (by rw [e]) (by rw [e]) (by rw [e]) (by rw [e]) (a 27 (by decide)).1, h3.go (by rw [e]) (by rw [e]) (a 29 (by decide)).1, h4.go (a 41 (by decide)).1 (a 42 (by decide)).1,
    h5.go (by rw [e]) (a 30 (by decide)).1 (a 31 (by decide)).1 (a 32 (by decide)).1, h6.go (by rw [e]) (a 33 (by decide)).1 (a 34 (by decide)).1, h7.go (by rw [e]) (a 37 (by decide)).1, h8.go (a 25 (by decide)).2⟩
theorem CB.up {k m : Nat} {c : Nat → Nat} (h : CB k m c) : CB (k + 1) m c := by
  refine ⟨fun p hp => ?_, Nat.le_trans h.2 (by omega)⟩
  have := h.1 p hp
  omega
theorem Gf.up {k : Nat} {S : AS} (h : Gf k S) : Gf (k + 1) S := ⟨h.1, h.2.1, h.2.2.1, h.2.2.2.1, h.2.2.2.2.up⟩
theorem Ga.up {k : Nat} {S : AS} (h : Ga k S) : Ga (k + 1) S := ⟨h.1, fun i hi => (h.2 i hi).up⟩
theorem Gs.up {k : Nat} {S : AS} (h : Gs k S) : Gs (k + 1) S := ⟨h.1, h.2.1, fun e => (h.2.2.1 e).up, fun e => (h.2.2.2 e).up⟩
theorem G.up {k : Nat} {S : AS} (h : G k S) : G (k + 1) S := ⟨h.1, h.2.1.up, h.2.2.1.up, h.2.2.2.1.up, h.2.2.2.2⟩
/-! ===== a call keeps step ===== -/
def Ok {α : Type} (f g : Mem → Option (α × Mem)) : Prop := ∀ (k : Nat) (z : Mem), k < 512 → Inv k z → ∃ (r : α) (z1 z2 : Mem), f z = some (r, z1) ∧ g z1 = some (r, z2) ∧ Inv (k + 1) z2
theorem ok_of {α : Type} {f g : Mem → Option (α × Mem)} (h : ∀ (k : Nat) (S : AS) (z : Mem), k < 512 → G k S → C S z → ∃ (r : α) (z1 : Mem) (S' : AS), f z = some (r, z1) ∧ C S' z1 ∧ AgM z z1 ∧ G (k + 1) S' ∧ ∀ y, Rr S y → ∃ y1, g y = some (r, y1) ∧ Rr S' y1 ∧ AgC y y1) : Ok f g := by
  intro k z hk ⟨S, hG, hC, hR⟩
  obtain ⟨r, z1, S', h1, h2, h3, h4, h5⟩ := h k S z hk hG hC
  obtain ⟨y1, g1, g2, g3⟩ := h5 z1 (hR.ag h3)
  exact ⟨r, z1, y1, h1, g1, S', h4, h2.ag g3, g2⟩
/-- a call that changes nothing -/
theorem ok_read {α : Type} {f g : Mem → Option (α × Mem)} (h : ∀ (k : Nat) (S : AS) (z y : Mem), k < 512 → G k S → C S z → Rr S y → ∃ r : α, f z = some (r, z) ∧ g y = some (r, y)) : Ok f g := by
  intro k z hk ⟨S, hG, hC, hR⟩
  obtain ⟨r, h1, h2⟩ := h k S z z hk hG hC hR
  exact ⟨r, z, z, h1, h2, S, hG.up, hC, hR⟩
theorem Inv0 : Inv 0 z00 := by
  refine ⟨(fun _ => 0, fun _ _ => 0, 0), ?_, ?_, ?_⟩
  · refine ⟨⟨by decide, fun j h => absurd h (by simp)⟩, ⟨by decide, by decide, by decide, by decide, ⟨fun p h => absurd h (by simp), Nat.le_refl _⟩⟩, ⟨by decide, fun i h => absurd h (by simp)⟩, ⟨by decide, by decide, fun h => absurd h (by simp), fun h => absurd h (by simp)⟩, ⟨by decide, fun j h => absurd h (by simp)⟩, ⟨by decide, fun j h => absurd h (by simp)⟩, ⟨by decide, fun j h => absurd h (by simp)⟩⟩
  · refine ⟨⟨rfl, fun j _ => rfl⟩, ⟨rfl, rfl, rfl, rfl, fun j _ => rfl⟩, ⟨0, by decide, rfl, rfl, fun _ _ _ _ => rfl⟩, ⟨rfl, fun _ _ _ => rfl, fun _ _ _ => rfl⟩, ⟨rfl, fun _ _ => ⟨rfl, rfl, rfl⟩⟩, ⟨rfl, fun _ _ => ⟨rfl, rfl⟩, Or.inl rfl⟩, ⟨rfl, fun _ _ => rfl⟩, rfl⟩
  · refine ⟨⟨rfl, fun j _ => rfl⟩, ⟨rfl, rfl, rfl, rfl, fun j _ => rfl⟩, ⟨0, by decide, rfl, rfl, fun _ _ _ _ => rfl⟩, ⟨rfl, rfl, fun _ _ _ => rfl, fun _ _ _ => rfl⟩, ⟨rfl, fun _ _ => ⟨rfl, rfl, rfl⟩⟩, ⟨rfl, fun _ _ => ⟨rfl, rfl⟩⟩, ⟨rfl, fun _ _ => rfl⟩, rfl⟩
