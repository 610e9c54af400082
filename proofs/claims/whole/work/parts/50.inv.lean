/-! THE INVARIANT between the class's numbers and the reference's -/
def stk (u : Nat) (h : HI) : HI := fun k j => if k < 30 then h (u + k) j else 0
def td (S : HI) : TD := (S 20, S 21, S 22, S 23, (S 0 5).toNat, (S 0 3).toNat, (S 1 3).toNat)
/-- names: letters 1 to 26, the last first -/
def er : List Int → Int
  | [] => 0
  | x :: t => er t * 32 + x
def ew : List Int → Int
  | [] => 0
  | x :: t => ew t * 256 + (x + 96)
def NM (v w : Int) : Prop := ∃ L : List Int, 1 ≤ L.length ∧ L.length ≤ 6 ∧ (∀ x ∈ L, 1 ≤ x ∧ x ≤ 26) ∧ v = er L ∧ w = ew L
def SRa (S : HI) (s nm : Int → Int) : Prop := (0 ≤ S 1 3 ∧ S 1 3 ≤ 6 ∧ s 0 = S 1 3) ∧ (0 ≤ S 1 4 ∧ S 1 4 ≤ 8 ∧ s 1 = S 1 4) ∧ (∀ i : Int, 0 ≤ i → i < 9 → s (2 + i) = S 4 i ∧ lawv 0 i ≤ S 4 i ∧ S 4 i ≤ lawv 1 i) ∧ (∀ b : Int, 0 ≤ b → b < S 1 4 → NM (S 3 b) (nm (6 + b))) ∧ (∀ b b' : Int, 0 ≤ b → b < S 1 4 → 0 ≤ b' → b' < S 1 4 → S 3 b = S 3 b' → b = b')
def SRc (S : HI) (s : Int → Int) : Prop := (0 ≤ S 0 3 ∧ S 0 3 ≤ 60 ∧ s 11 = S 0 3) ∧ ∀ c : Int, 0 ≤ c → c < S 0 3 → s (17 + c) = S 19 c ∧ 0 ≤ S 19 c ∧ S 19 c < S 1 4
def SRr (S : HI) (s : Int → Int) : Prop := (0 ≤ S 0 5 ∧ S 0 5 ≤ 200 ∧ s 12 = S 0 5) ∧ TDok (td S) ∧ (∀ r : Nat, (r : Int) < S 0 5 → s (77 + 4 * (r : Int)) = S 20 r ∧ s (77 + 4 * (r : Int) + 1) = S 21 r ∧ s (77 + 4 * (r : Int) + 2) = S 22 r ∧ s (77 + 4 * (r : Int) + 3) = S 23 r) ∧ (∀ j : Int, j < 0 ∨ 200 ≤ j → S 20 j = 0 ∧ S 21 j = 0 ∧ S 22 j = 0 ∧ S 23 j = 0)
/-! rests: the reference's log, the class's sums -/
def rq (s : Int → Int) (c : Int) (k : Nat) : Bool := decide (s (877 + 4 * (k : Int)) = c)
def lst (m : Nat → Bool) : Nat → Int
  | 0 => -1
  | n + 1 => if m n then (n : Int) else lst m n
def rjp (s : Int → Int) (c : Int) : Nat → Bool
  | 0 => false
  | n + 1 => rjp s c n || (rq s c n && decide (lst (rq s c) n ≠ -1 ∧ s 9 * (s (877 + 4 * (n : Int) + 1) - s (877 + 4 * lst (rq s c) n + 1)) < s (877 + 4 * lst (rq s c) n + 2) - s (877 + 4 * (n : Int) + 2)))
def rwm (s : Int → Int) (c : Int) : Nat → Bool
  | 0 => false
  | n + 1 => rwm s c n || (rq s c n && decide (s 10 ≤ s (877 + 4 * (n : Int) + 3)))
def SRs (S : HI) (s : Int → Int) : Prop := (0 ≤ S 0 10 ∧ S 0 10 ≤ 200 ∧ s 13 = S 0 10) ∧ (∀ k : Nat, (k : Int) < S 0 10 → (0 ≤ s (877 + 4 * (k : Int)) ∧ s (877 + 4 * (k : Int)) < S 0 3) ∧ (0 ≤ s (877 + 4 * (k : Int) + 1) ∧ s (877 + 4 * (k : Int) + 1) ≤ 99) ∧ (0 ≤ s (877 + 4 * (k : Int) + 2) ∧ s (877 + 4 * (k : Int) + 2) ≤ 4200) ∧ (0 ≤ s (877 + 4 * (k : Int) + 3) ∧ s (877 + 4 * (k : Int) + 3) ≤ 99)) ∧ (∀ k k' : Nat, k < k' → (k' : Int) < S 0 10 → s (877 + 4 * (k : Int)) = s (877 + 4 * (k' : Int)) → s (877 + 4 * (k : Int) + 1) < s (877 + 4 * (k' : Int) + 1)) ∧ (∀ c : Int, 0 ≤ c → c < S 0 3 → S 24 c = cN (rq s c) (S 0 10).toNat ∧ (0 < cN (rq s c) (S 0 10).toNat → S 25 c = s (877 + 4 * fst1 (rq s c) 0 (S 0 10).toNat + 1) ∧ S 26 c = s (877 + 4 * fst1 (rq s c) 0 (S 0 10).toNat + 2) ∧ S 27 c = s (877 + 4 * lst (rq s c) (S 0 10).toNat + 1) ∧ S 28 c = s (877 + 4 * lst (rq s c) (S 0 10).toNat + 2)) ∧ S 29 c = (if rjp s c (S 0 10).toNat then 2 else 0) + (if rwm s c (S 0 10).toNat then 4 else 0))
/-! packs and mends -/
def hiC (s : Int → Int) (p i : Int) : Nat → Int
  | 0 => s (1707 + 40 * p + i)
  | m + 1 => if s (2507 + 4 * (m : Int)) = p ∧ s (2507 + 4 * (m : Int) + 1) = i then s (2507 + 4 * (m : Int) + 2) else hiC s p i m
def lday (s : Int → Int) (p : Int) : Nat → Int
  | 0 => s (1677 + 3 * p)
  | m + 1 => if s (2507 + 4 * (m : Int)) = p then s (2507 + 4 * (m : Int) + 3) else lday s p m
def SRp1 (S : HI) (s : Int → Int) (p : Int) : Prop := (S 10 p = s (1677 + 3 * p + 2) ∧ 1 ≤ S 10 p ∧ S 10 p ≤ 40) ∧ (S 11 p = s (1677 + 3 * p + 1) ∧ 1 ≤ S 11 p ∧ S 11 p ≤ S 10 p ∧ S 10 p % S 11 p = 0) ∧ (S 12 p = s (1677 + 3 * p) ∧ 0 ≤ S 12 p ∧ S 12 p ≤ 999) ∧ (S 13 p = lday s p (S 7 7).toNat ∧ 0 ≤ S 13 p ∧ S 13 p ≤ 999) ∧ (∀ i : Int, 0 ≤ i → i < S 10 p → S 9 (p * 40 + i) = s (2107 + 40 * p + i) ∧ S 9 (p * 40 + i) = hiC s p i (S 7 7).toNat ∧ (0 ≤ S 9 (p * 40 + i) ∧ S 9 (p * 40 + i) < S 0 3) ∧ 0 < tcn (td S) (tru (td S)).1 (S 9 (p * 40 + i)) ∧ (0 ≤ s (1707 + 40 * p + i) ∧ s (1707 + 40 * p + i) < S 0 3) ∧ S 8 (S 9 (p * 40 + i)) = p) ∧ (∀ i i' : Int, 0 ≤ i → i < S 10 p → 0 ≤ i' → i' < S 10 p → S 9 (p * 40 + i) = S 9 (p * 40 + i') → i = i')
def SRm1 (S : HI) (s : Int → Int) (m : Nat) : Prop := (S 14 m = s (2507 + 4 * (m : Int)) ∧ 0 ≤ S 14 m ∧ S 14 m < S 7 0) ∧ (S 15 m = s (2507 + 4 * (m : Int) + 1) ∧ 0 ≤ S 15 m ∧ S 15 m < S 10 (S 14 m)) ∧ (0 ≤ s (2507 + 4 * (m : Int) + 2) ∧ s (2507 + 4 * (m : Int) + 2) < S 0 3) ∧ (S 17 m = s (2507 + 4 * (m : Int) + 3) ∧ S 12 (S 14 m) ≤ S 17 m ∧ S 17 m ≤ 999) ∧ S 16 m = hiC s (S 14 m) (S 15 m) m
def SRp (S : HI) (s : Int → Int) : Prop := (0 ≤ S 7 0 ∧ S 7 0 ≤ 10 ∧ s 14 = S 7 0) ∧ (0 ≤ S 7 7 ∧ S 7 7 ≤ 30 ∧ s 15 = S 7 7) ∧ (∀ p : Int, 0 ≤ p → p < S 7 0 → SRp1 S s p) ∧ (∀ c : Int, 0 ≤ c → c < S 0 3 → -1 ≤ S 8 c ∧ S 8 c < S 7 0 ∧ (0 ≤ S 8 c → ∃ i : Int, 0 ≤ i ∧ i < S 10 (S 8 c) ∧ S 9 (S 8 c * 40 + i) = c)) ∧ (∀ m : Nat, (m : Int) < S 7 7 → SRm1 S s m) ∧ (∀ m m' : Nat, m < m' → (m' : Int) < S 7 7 → S 14 m = S 14 m' → S 17 m ≤ S 17 m')
/-! the rule: steps, each a word's number, a sign 8 bits up, a number 16 bits up -/
def STP (B t w a b : Int) : Prop := (w = 7 ∧ t = 12 ∧ a = 0 ∧ b = 0) ∨ (w = 8 ∧ t = 11 ∧ a = 0 ∧ b = 0) ∨ (w = 9 ∧ t = 10 ∧ a = 0 ∧ b = 0) ∨ (w = 0 ∧ t = 14 ∧ a = 0 ∧ b = 0) ∨ (w = 1 ∧ t = 15 ∧ a = 0 ∧ b = 0) ∨ (w = 2 ∧ t = 13 + 65536 * a ∧ 0 ≤ a ∧ a < B ∧ b = 0) ∨ (3 ≤ w ∧ w ≤ 6 ∧ t = w + 13 + 256 * a + 65536 * b ∧ 60 ≤ a ∧ a ≤ 62 ∧ 0 ≤ b ∧ b ≤ 999)
/-- how many stand in the row before step k -/
def dep (w : Nat → Int) : Nat → Int
  | 0 => 0
  | k + 1 => dep w k + (if w k = 7 then 0 else if w k = 8 ∨ w k = 9 then -1 else 1)
def SRu (S : HI) (s : Int → Int) : Prop := (0 ≤ S 5 1 ∧ S 5 1 ≤ 40 ∧ s 16 = S 5 1) ∧ (0 ≤ S 5 2 ∧ S 5 2 ≤ 20 ∧ (S 5 2 = 0 ↔ S 5 1 = 0)) ∧ (∀ k : Nat, (k : Int) < S 5 1 → STP 8 (S 6 k) (s (2627 + 3 * (k : Int))) (s (2627 + 3 * (k : Int) + 1)) (s (2627 + 3 * (k : Int) + 2)) ∧ (s (2627 + 3 * (k : Int)) = 7 → 1 ≤ dep (fun k => s (2627 + 3 * (k : Int))) k) ∧ (s (2627 + 3 * (k : Int)) = 8 ∨ s (2627 + 3 * (k : Int)) = 9 → 2 ≤ dep (fun k => s (2627 + 3 * (k : Int))) k) ∧ dep (fun k => s (2627 + 3 * (k : Int))) (k + 1) ≤ 20) ∧ (0 < S 5 1 → dep (fun k => s (2627 + 3 * (k : Int))) (S 5 1).toNat = 1)
def SR (S : HI) (s nm : Int → Int) : Prop := SRa S s nm ∧ SRc S s ∧ SRr S s ∧ SRs S s ∧ SRp S s ∧ SRu S s
/-! the pieces -/
def tpI (h : HI) : Prop := 0 ≤ h 1 1 ∧ h 1 1 ≤ 540 ∧ h 97 2 = h 1 1 ∧ ∀ j : Int, 0 ≤ j → j < 540 → h 98 j = h 2 j ∧ -128 ≤ h 2 j ∧ h 2 j ≤ 127
def ftI (h : HI) : Prop := h 97 14 = h 1 8 ∧ 0 ≤ h 1 8 ∧ h 1 8 ≤ 4
def roI (h : HI) : Prop := 0 ≤ h 52 0 ∧ h 52 0 ≤ 12 ∧ h 97 48 = h 52 0 ∧ (∀ i : Int, 0 ≤ i → i < h 52 0 → h 121 i = h 53 i ∧ rg (h 53 i)) ∧ (h 52 0 ≠ 0 → h 97 49 = h 52 3 ∧ h 97 50 = h 52 4 ∧ rg (h 52 3) ∧ rg (h 52 4))
def swI (h : HI) : Prop := 0 ≤ h 65 0 ∧ h 65 0 ≤ 40 ∧ h 97 53 = h 65 0 ∧ (∀ i : Int, 0 ≤ i → i < h 65 0 → h 122 i = h 67 i ∧ rg (h 67 i)) ∧ (h 65 0 ≠ 0 → h 97 54 = h 65 5 ∧ h 97 55 = h 65 6 ∧ h 97 56 = h 65 4 - h 65 3 ∧ rg (h 65 5) ∧ rg (h 65 6) ∧ rg (h 65 4 - h 65 3))
def shI (h : HI) : Prop := 0 ≤ h 70 0 ∧ h 70 0 ≤ 9 ∧ h 97 58 = h 70 0 ∧ ∀ i : Int, 0 ≤ i → i < h 70 0 → h 124 i = h 72 i ∧ rg (h 72 i)
def bmI (h : HI) : Prop := (h 97 59 = 0 ∧ h 0 10 = -1 ∧ h 0 11 = -1) ∨ (h 97 59 = 1 ∧ h 97 60 = h 0 10 ∧ h 97 61 = h 0 11 ∧ rg (h 0 10) ∧ rg (h 0 11))
def loI (h : HI) : Prop := h 97 62 = h 0 12 ∧ rg (h 0 12)
def weI (W : Nat) (h : HI) : Prop := (0 ≤ h W 0 ∧ h W 0 ≤ 12 ∧ h 133 0 = h W 0) ∧ (∀ k : Int, 0 ≤ k → k < h W 0 → (h 127 k = h (W + 1) k ∧ 0 ≤ h (W + 1) k ∧ h (W + 1) k < 120) ∧ (h 128 k = h (W + 2) k ∧ 0 ≤ h (W + 2) k ∧ h (W + 2) k < 120) ∧ (h 129 k = h (W + 3) k ∧ 0 ≤ h (W + 3) k ∧ h (W + 3) k < 4096)) ∧ (0 ≤ h W 4 ∧ h W 4 ≤ 64 ∧ h 134 0 = h W 4) ∧ ∀ n : Int, 0 ≤ n → n < h W 4 → (h 130 n = h (W + 4) n ∧ 0 ≤ h (W + 4) n ∧ h (W + 4) n < h W 0) ∧ (h 131 n = h (W + 5) n ∧ 0 ≤ h (W + 5) n ∧ h (W + 5) n < 120) ∧ (h 132 n = h (W + 6) n ∧ 0 ≤ h (W + 6) n ∧ h (W + 6) n < 120)
def orI (h : HI) : Prop := 0 ≤ h 91 0 ∧ h 91 0 ≤ 12 ∧ h 97 78 = h 91 0 ∧ ∀ i : Int, 0 ≤ i → i < h 91 0 → h 139 i = h 92 i ∧ rg (h 92 i)
def rsvL : List Int := [422608528232, 6451064, 1717658725, 439905906546, 422725379428, 1718973285, 474315584357, 1818583403, 1786080624, 2002874989, 28530, 6385252, 7237492, 26990, 1818846579, 1970496868, 1752132708, 1885434739, 126926792778084, 1667591276, 495874894192, 418330731890, 1852137842]
def rsI (h : HI) : Prop := ∀ k : Nat, k < 23 → h 102 k = rsvL.getD k 0
def im1 (o : Option Nat) (k : Nat) (h : HI) : Prop := match o with
  | none => h 142 k = 0
  | some u => h 142 k = 1 ∧ SR (stk u h) (fun j => h 140 (2819 * k + j)) (fun j => h 141 (14 * k + j))
def imI (ζ : ZP) (h : HI) : Prop := im1 ζ.2.2.1 0 h ∧ im1 ζ.2.2.2.1 1 h
def ζok (ζ : ZP) : Prop := ((ζ.1 = 75 ∧ ζ.2.1 = 83) ∨ (ζ.1 = 83 ∧ ζ.2.1 = 75)) ∧ ((ζ.2.2.1 = none ∧ ζ.2.2.2.1 = none ∧ ζ.2.2.2.2 = 144) ∨ (ζ.2.2.1 = some 144 ∧ ζ.2.2.2.1 = none ∧ ζ.2.2.2.2 = 174) ∨ (ζ.2.2.1 = none ∧ ζ.2.2.2.1 = some 144 ∧ ζ.2.2.2.2 = 174) ∨ (ζ.2.2.1 = some 144 ∧ ζ.2.2.2.1 = some 174 ∧ ζ.2.2.2.2 = 204) ∨ (ζ.2.2.1 = some 174 ∧ ζ.2.2.2.1 = some 144 ∧ ζ.2.2.2.2 = 204))
/-- the places before the sums of ROWS hold 0 -/
def rzI (h : HI) : Prop := ∀ i : Int, 0 ≤ i → i ≤ 12 → h 60 (i * 13) = 0 ∧ h 61 (i * 13) = 0 ∧ h 62 (i * 13) = 0 ∧ h 63 (i * 13) = 0
def IP (ζ : ZP) (h : HI) : Nat → Prop
  | 0 => tpI h
  | 1 => ftI h
  | 2 => SR (stk 3 h) (h 99) (h 101)
  | 3 => roI h
  | 4 => swI h
  | 5 => shI h
  | 6 => bmI h
  | 7 => loI h
  | 8 => weI ζ.1 h
  | 9 => orI h
  | 10 => rsI h
  | 11 => imI ζ h
  | 12 => rzI h
  | _ => True
def ipD : Nat → List (Nat × Int)
  | 0 => [(1, 1), (97, 2), (2, -1), (98, -1)]
  | 1 => [(97, 14), (1, 8)]
  | 2 => (99, -1) :: (101, -1) :: (List.range 30).map (fun k => (3 + k, -1))
  | 3 => [(52, 0), (52, 3), (52, 4), (53, -1), (97, 48), (97, 49), (97, 50), (121, -1)]
  | 4 => [(65, 0), (65, 3), (65, 4), (65, 5), (65, 6), (67, -1), (97, 53), (97, 54), (97, 55), (97, 56), (122, -1)]
  | 5 => [(70, 0), (72, -1), (97, 58), (124, -1)]
  | 6 => [(97, 59), (97, 60), (97, 61), (0, 10), (0, 11)]
  | 7 => [(97, 62), (0, 12)]
  | 8 => (133, -1) :: (134, -1) :: (127, -1) :: (128, -1) :: (129, -1) :: (130, -1) :: (131, -1) :: (132, -1) :: (List.range 16).map (fun k => (75 + k, -1))
  | 9 => [(91, 0), (92, -1), (97, 78), (139, -1)]
  | 10 => [(102, -1)]
  | 11 => (140, -1) :: (141, -1) :: (142, -1) :: (List.range 60).map (fun k => (144 + k, -1))
  | 12 => [(60, -1), (61, -1), (62, -1), (63, -1)]
  | _ => []
def okL (n : Nat) (L : List (Nat × Int)) : Bool := (ipD n).all (fun q => if q.2 = -1 then !inC L q.1 else !inL L q.1 q.2)
def Inv0 (ζ : ZP) (h : HI) : Prop := ζok ζ ∧ ∀ n, IP ζ h n
def trI (h : HI) : Prop := (h 40 0 = 0 ∨ h 40 0 = 1) ∧ (h 40 0 = 0 → TSX (tru (td (stk 3 h))) h ∧ TWX (td (stk 3 h)) (tru (td (stk 3 h))) h)
def Inv (ζ : ZP) (h : HI) : Prop := Inv0 ζ h ∧ trI h
theorem okL_c {n : Nat} {L : List (Nat × Int)} (c : okL n L = true) {k : Nat} (m : (k, (-1 : Int)) ∈ ipD n) : inC L k = false := by
  have := List.all_eq_true.mp c _ m
  simpa using this
theorem okL_f {n : Nat} {L : List (Nat × Int)} (c : okL n L = true) {k : Nat} {j : Int} (m : (k, j) ∈ ipD n) (hj : j ≠ -1) : inL L k j = false := by
  have := List.all_eq_true.mp c _ m
  simp only [if_neg hj] at this
  simpa using this
theorem stk_fl {u : Nat} {h h' : HI} (e : ∀ k, k < 30 → h' (u + k) = h (u + k)) : stk u h' = stk u h := by
  funext k j
  unfold stk
  by_cases q : k < 30
  · rw [if_pos q, if_pos q, e k q]
  · rw [if_neg q, if_neg q]
theorem tpI.fl {h h' : HI} (i : tpI h) (e1 : h' 1 1 = h 1 1) (e2 : h' 97 2 = h 97 2) (e3 : h' 2 = h 2) (e4 : h' 98 = h 98) : tpI h' := by
  unfold tpI at i ⊢; rw [e1, e2, e3, e4]; exact i
theorem weI.fl {W : Nat} {h h' : HI} (hW : isW W) (i : weI W h) (e : ∀ k, k < 16 → h' (75 + k) = h (75 + k)) (e1 : h' 127 = h 127) (e2 : h' 128 = h 128) (e3 : h' 129 = h 129) (e4 : h' 130 = h 130) (e5 : h' 131 = h 131) (e6 : h' 132 = h 132) (e7 : h' 133 = h 133) (e8 : h' 134 = h 134) : weI W h' := by
  have a : ∀ k, k < 7 → h' (W + k) = h (W + k) := by
    intro k hk
    rcases hW with rfl | rfl
    · exact e k (by omega)
    · have := e (8 + k) (by omega)
      rwa [show 75 + (8 + k) = 83 + k by omega] at this
  have a0 := a 0 (by decide)
  simp only [Nat.add_zero] at a0
  unfold weI at i ⊢
  rw [e1, e2, e3, e4, e5, e6, e7, e8, a0, a 1 (by decide), a 2 (by decide), a 3 (by decide), a 4 (by decide), a 5 (by decide), a 6 (by decide)]
  exact i
theorem ζok_W {ζ : ZP} (z : ζok ζ) : isW ζ.1 := by rcases z.1 with e | e <;> simp [isW, e.1]
theorem ζok_W2 {ζ : ZP} (z : ζok ζ) : isW ζ.2.1 := by rcases z.1 with e | e <;> simp [isW, e.2]
theorem ζok_n {ζ : ZP} (z : ζok ζ) : 144 ≤ ζ.2.2.2.2 := by rcases z.2 with e | e | e | e | e <;> omega
theorem ζok_u {ζ : ZP} (z : ζok ζ) {u : Nat} (e : ζ.2.2.1 = some u ∨ ζ.2.2.2.1 = some u) : u = 144 ∨ u = 174 := by
  rcases z.2 with q | q | q | q | q <;> rcases e with e | e <;> simp [q] at e <;> omega
theorem im1.fl {o : Option Nat} {k : Nat} {h h' : HI} (i : im1 o k h) (e : ∀ u, o = some u → stk u h' = stk u h) (e1 : h' 140 = h 140) (e2 : h' 141 = h 141) (e3 : h' 142 = h 142) : im1 o k h' := by
  cases o with
  | none => unfold im1 at i ⊢; simp only at i ⊢; rw [e3]; exact i
  | some u => unfold im1 at i ⊢; simp only at i ⊢; rw [e1, e2, e3, e u rfl]; exact i
set_option maxRecDepth 4000 in
theorem IP.fl {ζ : ZP} {h h' : HI} {L : List (Nat × Int)} (z : ζok ζ) (f : FL L h h') (n : Nat) (c : okL n L = true) (i : IP ζ h n) : IP ζ h' n := by
  match n, c, i with
  | 0, c, i => exact tpI.fl i (f.at 1 1 (okL_f c (by decide) (by decide))) (f.at 97 2 (okL_f c (by decide) (by decide))) (f.c 2 (okL_c c (by decide))) (f.c 98 (okL_c c (by decide)))
  | 1, c, i =>
    have i' : ftI h := i
    show ftI h'
    unfold ftI at i' ⊢
    rw [f.at 97 14 (okL_f c (by decide) (by decide)), f.at 1 8 (okL_f c (by decide) (by decide))]; exact i'
  | 2, c, i =>
    have i' : SR (stk 3 h) (h 99) (h 101) := i
    show SR (stk 3 h') (h' 99) (h' 101)
    rw [f.c 99 (okL_c c (by decide)), f.c 101 (okL_c c (by decide)), stk_fl (u := 3) (h := h) (h' := h') (fun k hk => f.c (3 + k) (okL_c c (List.mem_cons_of_mem _ (List.mem_cons_of_mem _ (List.mem_map.mpr ⟨k, List.mem_range.mpr hk, rfl⟩)))))]
    exact i'
  | 3, c, i =>
    have i' : roI h := i
    show roI h'
    unfold roI at i' ⊢
    rw [f.at 52 0 (okL_f c (by decide) (by decide)), f.at 52 3 (okL_f c (by decide) (by decide)), f.at 52 4 (okL_f c (by decide) (by decide)), f.at 97 48 (okL_f c (by decide) (by decide)), f.at 97 49 (okL_f c (by decide) (by decide)), f.at 97 50 (okL_f c (by decide) (by decide)), f.c 53 (okL_c c (by decide)), f.c 121 (okL_c c (by decide))]
    exact i'
  | 4, c, i =>
    have i' : swI h := i
    show swI h'
    unfold swI at i' ⊢
    rw [f.at 65 0 (okL_f c (by decide) (by decide)), f.at 65 3 (okL_f c (by decide) (by decide)), f.at 65 4 (okL_f c (by decide) (by decide)), f.at 65 5 (okL_f c (by decide) (by decide)), f.at 65 6 (okL_f c (by decide) (by decide)), f.at 97 53 (okL_f c (by decide) (by decide)), f.at 97 54 (okL_f c (by decide) (by decide)), f.at 97 55 (okL_f c (by decide) (by decide)), f.at 97 56 (okL_f c (by decide) (by decide)), f.c 67 (okL_c c (by decide)), f.c 122 (okL_c c (by decide))]
    exact i'
  | 5, c, i =>
    have i' : shI h := i
    show shI h'
    unfold shI at i' ⊢
    rw [f.at 70 0 (okL_f c (by decide) (by decide)), f.at 97 58 (okL_f c (by decide) (by decide)), f.c 72 (okL_c c (by decide)), f.c 124 (okL_c c (by decide))]
    exact i'
  | 6, c, i =>
    have i' : bmI h := i
    show bmI h'
    unfold bmI at i' ⊢
    rw [f.at 97 59 (okL_f c (by decide) (by decide)), f.at 97 60 (okL_f c (by decide) (by decide)), f.at 97 61 (okL_f c (by decide) (by decide)), f.at 0 10 (okL_f c (by decide) (by decide)), f.at 0 11 (okL_f c (by decide) (by decide))]
    exact i'
  | 7, c, i =>
    have i' : loI h := i
    show loI h'
    unfold loI at i' ⊢
    rw [f.at 97 62 (okL_f c (by decide) (by decide)), f.at 0 12 (okL_f c (by decide) (by decide))]
    exact i'
  | 8, c, i =>
    exact weI.fl (ζok_W z) i (fun k hk => f.c (75 + k) (okL_c c (List.mem_cons_of_mem _ (List.mem_cons_of_mem _ (List.mem_cons_of_mem _ (List.mem_cons_of_mem _ (List.mem_cons_of_mem _ (List.mem_cons_of_mem _ (List.mem_cons_of_mem _ (List.mem_cons_of_mem _ (List.mem_map.mpr ⟨k, List.mem_range.mpr hk, rfl⟩))))))))))) (f.c 127 (okL_c c (by decide))) (f.c 128 (okL_c c (by decide))) (f.c 129 (okL_c c (by decide))) (f.c 130 (okL_c c (by decide))) (f.c 131 (okL_c c (by decide))) (f.c 132 (okL_c c (by decide))) (f.c 133 (okL_c c (by decide))) (f.c 134 (okL_c c (by decide)))
  | 9, c, i =>
    have i' : orI h := i
    show orI h'
    unfold orI at i' ⊢
    rw [f.at 91 0 (okL_f c (by decide) (by decide)), f.at 97 78 (okL_f c (by decide) (by decide)), f.c 92 (okL_c c (by decide)), f.c 139 (okL_c c (by decide))]
    exact i'
  | 10, c, i =>
    have i' : rsI h := i
    show rsI h'
    unfold rsI at i' ⊢
    rw [f.c 102 (okL_c c (by decide))]
    exact i'
  | 11, c, i =>
    have i' : imI ζ h := i
    have s : ∀ k, k < 60 → h' (144 + k) = h (144 + k) := fun k hk => f.c (144 + k) (okL_c c (List.mem_cons_of_mem _ (List.mem_cons_of_mem _ (List.mem_cons_of_mem _ (List.mem_map.mpr ⟨k, List.mem_range.mpr hk, rfl⟩)))))
    have st : ∀ u, (ζ.2.2.1 = some u ∨ ζ.2.2.2.1 = some u) → stk u h' = stk u h := by
      intro u hu
      refine stk_fl (fun k hk => ?_)
      rcases ζok_u z hu with rfl | rfl
      · exact s k (by omega)
      · have := s (30 + k) (by omega)
        rwa [show 144 + (30 + k) = 174 + k by omega] at this
    exact ⟨i'.1.fl (fun u e => st u (Or.inl e)) (f.c 140 (okL_c c (by decide))) (f.c 141 (okL_c c (by decide))) (f.c 142 (okL_c c (by decide))), i'.2.fl (fun u e => st u (Or.inr e)) (f.c 140 (okL_c c (by decide))) (f.c 141 (okL_c c (by decide))) (f.c 142 (okL_c c (by decide)))⟩
  | 12, c, i =>
    have i' : rzI h := i
    show rzI h'
    unfold rzI at i' ⊢
    rw [f.c 60 (okL_c c (by decide)), f.c 61 (okL_c c (by decide)), f.c 62 (okL_c c (by decide)), f.c 63 (okL_c c (by decide))]
    exact i'
  | n + 13, c, i => trivial
theorem Inv0.upd {ζ : ZP} {h h' : HI} {L : List (Nat × Int)} (i : Inv0 ζ h) (f : FL L h h') (ns : List Nat) (c : (List.range 13).all (fun n => ns.contains n || okL n L) = true) (new : ∀ n ∈ ns, IP ζ h' n) : Inv0 ζ h' := by
  refine ⟨i.1, fun n => ?_⟩
  by_cases hn : n < 13
  · by_cases m : n ∈ ns
    · exact new n m
    · have := List.all_eq_true.mp c n (List.mem_range.mpr hn)
      simp only [Bool.or_eq_true, List.contains_iff_mem] at this
      rcases this with e | e
      · exact absurd e m
      · exact IP.fl i.1 f n e (i.2 n)
  · obtain ⟨m, rfl⟩ : ∃ m, n = m + 13 := ⟨n - 13, by omega⟩
    trivial
theorem trI.fl {h h' : HI} {L : List (Nat × Int)} (t : trI h) (f : FL L h h') (c : ((List.range 30).all (fun k => !inC L (3 + k)) && (List.range 11).all (fun k => !inC L (40 + k))) = true) : trI h' := by
  simp only [Bool.and_eq_true] at c
  have e : stk 3 h' = stk 3 h := stk_fl (fun k hk => f.c (3 + k) (by have := List.all_eq_true.mp c.1 k (List.mem_range.mpr hk); simpa using this))
  have a : ∀ k, k < 11 → h' (40 + k) = h (40 + k) := fun k hk => f.c (40 + k) (by have := List.all_eq_true.mp c.2 k (List.mem_range.mpr hk); simpa using this)
  have a0 := a 0 (by decide)
  have a1 := a 1 (by decide)
  have a2 := a 2 (by decide)
  have a3 := a 3 (by decide)
  have a4 := a 4 (by decide)
  have a5 := a 5 (by decide)
  have a6 := a 6 (by decide)
  have a7 := a 7 (by decide)
  have a8 := a 8 (by decide)
  simp only [Nat.reduceAdd] at a0 a1 a2 a3 a4 a5 a6 a7 a8
  unfold trI TSX TWX at t ⊢
  rw [e, a0, a1, a2, a3, a4, a5, a6, a7, a8]
  exact t
