/-! ===== how the class stands to the reference ===== -/
/-- a place that holds an object -/
def liv (M : Mem) (i : Nat) : Prop := i < 1500 ∧ 0 < M 29 i
/-- a value that may be held: w is the number of words -/
def vk (M : Mem) (w : Nat) (k x : Int32) : Prop := (k = nI 0 ∧ x = nI 0) ∨ k = nI 1 ∨ (k = nI 2 ∧ ∃ i, liv M i ∧ x = nI i) ∨ (k = nI 3 ∧ ∃ q, q ≤ w ∧ x = nI q)
def lnp (M : Mem) (c : Int32) : Prop := c = -1 ∨ ∃ i, liv M i ∧ c = nI i
/-- the address of the class's object for a place, or none -/
def ptr (S : CS) (r : Nat → Nat) (c : Int32) : Option Nat := if c < 0 then none else some (cA S 8 (r c.toNatClampNeg))
def gSk (S : CS) : Prop := cE S 0 0 = true ∧ cE S 1 0 = true ∧ cE S 2 0 = true ∧ cE S 3 0 = true ∧ cE S 4 0 = true ∧ cE S 9 0 = true ∧ cE S 10 0 = true ∧ cE S 11 0 = true ∧ cE S 12 0 = true ∧ cE S 13 0 = true ∧ cE S 14 0 = true ∧ cE S 15 0 = true ∧ cE S 5 2000 = true ∧ cE S 7 0 = true ∧
  cP S 0 0 0 = some (cA S 1 0) ∧ cP S 0 1 0 = some (cA S 3 0) ∧ cP S 0 2 0 = some (cA S 2 0) ∧ cP S 0 3 0 = some (cA S 4 0) ∧ cP S 1 2 0 = some (cA S 9 0) ∧ cP S 1 3 0 = some (cA S 10 0) ∧ cP S 1 4 0 = some (cA S 5 2000) ∧ cP S 2 3 0 = some (cA S 11 0) ∧ cP S 2 4 0 = some (cA S 12 0) ∧ cP S 2 5 0 = some (cA S 13 0) ∧ cP S 2 6 0 = some (cA S 7 0) ∧ cP S 3 10 0 = some (cA S 2 0) ∧ cP S 3 11 0 = some (cA S 14 0) ∧ cP S 4 1 0 = some (cA S 15 0) ∧
  cI S 5 0 2000 = nI 0 ∧ cI S 5 1 2000 = nI 0 ∧ cI S 5 2 2000 = nI 0
/-- the things there are, whether they hold an object or not -/
def gTh (S : CS) (np : Nat) : Prop := ∀ i, (cE S 8 i = true → i < np ∧ cE S 18 i = true ∧ cE S 19 i = true ∧ cP S 8 1 i = some (cA S 18 i) ∧ cP S 8 2 i = some (cA S 19 i) ∧ cI S 8 0 i = nI i) ∧ (cE S 8 i = false → cE S 18 i = false ∧ cE S 19 i = false) ∧ (i < np → cP S 14 i 0 = if cE S 8 i = true then some (cA S 8 i) else none)
def gFr (S : CS) : Prop := ∀ i, (cE S 7 i = true → i < 200 ∧ cE S 17 i = true ∧ cP S 7 5 i = some (cA S 17 i) ∧ cP S 7 0 i = (if i = 0 then none else some (cA S 7 (i - 1))) ∧ cP S 7 1 i = (if cE S 7 (i + 1) = true then some (cA S 7 (i + 1)) else none)) ∧ (cE S 7 i = false → cE S 17 i = false) ∧ (cE S 7 (i + 1) = true → cE S 7 i = true)
def gWd (S : CS) : Prop := ∀ i, (i < 2000 → cP S 9 i 0 = if cE S 5 i = true then some (cA S 5 i) else none) ∧ (cE S 5 i = true → i ≤ 2000 ∧ cP S 5 3 i = if cE S 6 i = true then some (cA S 6 i) else none) ∧ (cE S 6 i = true → i < 2000 ∧ cE S 5 i = true ∧ cE S 16 i = true ∧ cP S 6 4 i = some (cA S 16 i)) ∧ (cE S 6 i = false → cE S 16 i = false)
/-- the words -/
def gWo (S : CS) (M : Mem) (w : Nat) : Prop := w ≤ 2000 ∧ M 5 0 = nI w ∧ cI S 1 0 0 = nI w ∧ cI S 1 1 0 = M 8 0 ∧ ∀ i, i < w → cE S 5 i = true ∧ cI S 5 0 i = M 2 i ∧ cI S 5 1 i = M 3 i ∧ cI S 5 2 i = M 4 i
/-- a code that was linked -/
def gCo (S : CS) (M : Mem) (w : Nat) : Prop := (∀ i, i < w → flt M i = 0) ∧ ∀ l, l < 200 → cI S 10 l 0 = M 6 l ∧ (M 6 l = -1 ∨ ∃ q, q ≤ w ∧ M 6 l = nI q)
def gSc (S : CS) (M : Mem) (p f w s : Nat) : Prop := M 7 0 = nI 1 ∧ cI S 0 4 0 = nI 1 ∧ cI S 0 5 0 = M 9 0 ∧ cI S 0 6 0 = M 10 0 ∧ (∃ a, a ≤ w ∧ M 10 0 = nI a) ∧ cI S 0 8 0 = nI s ∧ M 11 0 = nI s ∧ s ≤ 2 ^ 30 ∧ cI S 0 9 0 = M 52 0 ∧ cI S 0 10 0 = M 53 0 ∧ cI S 2 0 0 = nI p ∧ M 14 0 = nI p ∧ p ≤ 1000 ∧ cI S 2 1 0 = nI f ∧ M 22 0 = nI f ∧ 0 < f ∧ f ≤ 200 ∧ cP S 2 2 0 = some (cA S 7 (f - 1))
/-- the rooms -/
def gHp (S : CS) (M : Mem) (np s nu gr : Nat) : Prop := cI S 3 4 0 = M 43 0 ∧ cI S 3 5 0 = M 44 0 ∧ cI S 3 6 0 = M 45 0 ∧ cI S 3 7 0 = M 40 0 ∧ (∃ m, m ≤ s ∧ M 40 0 = nI m ∧ (∀ i, liv M i → ∃ q, q ≤ m ∧ M 29 i = nI q) ∧ ∀ i j, liv M i → liv M j → M 29 i = M 29 j → i = j) ∧ cI S 3 8 0 = nI nu ∧ M 0 0 = nI nu ∧ cI S 3 9 0 = nI gr ∧ M 1 0 = nI gr ∧ 8 ≤ nu ∧ nu ≤ 200 ∧ 16 ≤ gr ∧ gr ≤ 4000 ∧ np = nu / 3 + gr / 3
def gPi (S : CS) (M : Mem) (r : Nat → Nat) (p w : Nat) : Prop := ∀ j, j < p → cJ S 11 j 0 = vl r (M 12 j) (M 13 j) ∧ vk M w (M 12 j) (M 13 j)
def gFv (S : CS) (M : Mem) (r : Nat → Nat) (p f w : Nat) (lm bs : Nat → Nat) : Prop := bs 0 = 0 ∧ bs (f - 1) ≤ p ∧ ∀ g, g < f → cE S 7 g = true ∧ cI S 7 2 g = nI (bs g) ∧ M 15 g = nI (bs g) ∧ (0 < g → bs (g - 1) ≤ bs g ∧ cI S 7 3 g = M 16 g ∧ ∃ q, q ≤ w ∧ M 16 g = nI q) ∧ cI S 7 4 g = nI (lm g) ∧ M 19 g = nI (lm g) ∧ lm g ≤ 16 ∧ (∀ k, k < lm g → cJ S 17 k g = vl r (M 20 (16 * g + k)) (M 21 (16 * g + k)) ∧ vk M w (M 20 (16 * g + k)) (M 21 (16 * g + k))) ∧ (∀ k, lm g ≤ k → k < 16 → cJ S 17 k g = 0) ∧ cJ S 17 16 g = vl r (M 17 g) (M 18 g) ∧ vk M w (M 17 g) (M 18 g)
def gGl (S : CS) (M : Mem) (r : Nat → Nat) (w : Nat) : Prop := ∀ k, k < 16 → cJ S 12 k 0 = vl r (M 23 k) (M 24 k) ∧ vk M w (M 23 k) (M 24 k)
def gPr (S : CS) (M : Mem) (r : Nat → Nat) : Prop := ∀ k, k < 4 → cP S 13 k 0 = ptr S r (M 25 k) ∧ lnp M (M 25 k)
/-- the object at the place i -/
def tfR (S : CS) (M : Mem) (r : Nat → Nat) (w i : Nat) : Prop := cI S 8 3 (r i) = M 29 i ∧ cI S 8 4 (r i) = M 32 i ∧ cI S 8 5 (r i) = M 33 i ∧ cP S 8 6 (r i) = ptr S r (M 31 i) ∧ lnp M (M 31 i) ∧ cI S 8 7 (r i) = nI 1 ∧ cI S 8 8 (r i) = M 30 i ∧ (M 30 i = nI 0 ∨ M 30 i = nI 1) ∧ ∃ n, n ≤ 40 ∧ M 32 i = nI n ∧ ∀ s, s < n → cI S 18 s (r i) = M 34 (40 * i + s) ∧ cJ S 19 s (r i) = vl r (M 35 (40 * i + s)) (M 36 (40 * i + s)) ∧ vk M w (M 35 (40 * i + s)) (M 36 (40 * i + s)) ∧ ∃ q, q < 64 ∧ M 34 (40 * i + s) = nI q
def gOb (S : CS) (M : Mem) (r : Nat → Nat) (w np u : Nat) : Prop := cI S 3 12 0 = nI u ∧ u ≤ np ∧ (∀ j, j < u → cE S 8 j = true) ∧ (∀ i, liv M i → r i < u ∧ tfR S M r w i) ∧ (∀ i j, liv M i → liv M j → r i = r j → i = j) ∧ ∀ j, j < u → cI S 8 7 j = nI 0 ∨ ∃ i, liv M i ∧ r i = j
def lnk (S : CS) : Option Nat → List Nat → Prop
  | o, [] => o = none
  | o, j :: l => o = some (cA S 8 j) ∧ lnk S (cP S 8 10 j) l
/-- those that wait to be made anew -/
def gSp (S : CS) (u : Nat) (sp : List Nat) : Prop := sp.Nodup ∧ (∀ j, j ∈ sp ↔ (j < u ∧ cI S 8 7 j = nI 0)) ∧ lnk S (cP S 3 13 0) sp
def csz (S : CS) (j : Nat) : Nat := 3 + (cI S 8 4 j).toNatClampNeg
def cvY (S : CS) (j : Nat) : Nat := if cI S 8 7 j = nI 1 ∧ cI S 8 8 j = nI 0 then csz S j else 0
def cvO (S : CS) (j : Nat) : Nat := if cI S 8 7 j = nI 1 ∧ ¬ cI S 8 8 j = nI 0 then csz S j else 0
def cnY (S : CS) (j : Nat) : Nat := if cI S 8 7 j = nI 1 ∧ cI S 8 8 j = nI 0 then 1 else 0
def cnO (S : CS) (j : Nat) : Nat := if cI S 8 7 j = nI 1 ∧ ¬ cI S 8 8 j = nI 0 then 1 else 0
/-- the counts of the rooms, as the class has them -/
def gCs (S : CS) (u : Nat) : Prop := cI S 3 0 0 = nI (sumN (cvY S) u) ∧ cI S 3 1 0 = nI (sumN (cvO S) u) ∧ cI S 3 2 0 = nI (sumN (cnY S) u) ∧ cI S 3 3 0 = nI (sumN (cnO S) u)
def rvY (M : Mem) (i : Nat) : Nat := if 0 < M 29 i ∧ M 30 i = nI 0 then szM M i else 0
def rvO (M : Mem) (i : Nat) : Nat := if 0 < M 29 i ∧ ¬ M 30 i = nI 0 then szM M i else 0
def gRs (M : Mem) (nu gr : Nat) : Prop := M 41 0 = nI (sumN (rvY M) 1500) ∧ M 42 0 = nI (sumN (rvO M) 1500) ∧ sumN (rvY M) 1500 ≤ nu ∧ sumN (rvO M) 1500 ≤ gr
/-- what the sites remember -/
def gSi (S : CS) (M : Mem) (w : Nat) : Prop := ∀ a, a < w → (M 47 a = -1 ∧ (cE S 6 a = true → cI S 6 0 a = nI 0)) ∨ (∃ k, k < 4 ∧ M 47 a = nI k ∧ cE S 6 a = true ∧ cI S 6 0 a = M 51 a ∧ ¬ M 51 a = 0 ∧ cI S 6 1 a = nI k ∧ cI S 6 2 a = M 48 a ∧ (k = 2 → ∃ n, n ≤ 40 ∧ M 49 a = nI n ∧ cI S 6 3 a = nI n ∧ ∀ s, s < n → cI S 16 s a = M 50 (40 * a + s)))
def gOu (S : CS) (M : Mem) (s : Nat) : Prop := ∃ o, o ≤ s ∧ M 28 0 = nI o ∧ cI S 4 0 0 = nI o ∧ ∀ i, i < o → i < 1000 → ∃ k, k < 4 ∧ M 26 i = nI k ∧ cJ S 15 i 0 = pkv (nI k) (M 27 i)
/-- what reach wants of all places, also of those that hold nothing -/
def gWf (M : Mem) : Prop := ∀ i, i < 1500 → (∃ n, n ≤ 40 ∧ M 32 i = nI n) ∧ (M 31 i = -1 ∨ ∃ j, j < 1500 ∧ M 31 i = nI j) ∧ ∀ s, s < 40 → okv (M 35 (40 * i + s)) (M 36 (40 * i + s))
