/-! the ways in their order -/
def rsW (W : Nat → Nat) : Nat → Nat
  | 0 => 0
  | r + 1 => if W (r + 1) < W r then rsW W r else r + 1
def abW (W : Nat → Nat) (p : Nat) : Nat → Nat
  | 0 => 0
  | a + 1 => if p < a + 1 ∧ W (a + 1) < W p then abW W p a else a + 1
def rvW : Nat → (Nat → Nat) → Nat → Nat → (Nat → Nat)
  | 0, W, _, _ => W
  | k + 1, W, lo, hi => if lo < hi then rvW k (swp W lo hi) (lo + 1) (hi - 1) else W
def nxW (n : Nat) (W : Nat → Nat) : Option (Nat → Nat) := if rsW W (n - 1) = 0 then none else some (rvW n (swp W (rsW W (n - 1) - 1) (abW W (rsW W (n - 1) - 1) (n - 1))) (rsW W (n - 1)) (n - 1))
def cdW (n : Nat) (W : Nat → Nat) : Nat → Nat
  | 0 => 0
  | k + 1 => cdW n W k * n + W k
/-- the digits of x, as a set -/
def msN (n : Nat) : Nat → Nat → Nat
  | 0, _ => 0
  | k + 1, x => msN n k (x / n) ||| 2 ^ (x % n)
def ordB (n c : Nat) : Bool := Nat.beq (msN n n c) (2 ^ n - 1)
/-- none of the k codes from a on is an order -/
def noO (n a : Nat) : Nat → Bool
  | 0 => true
  | k + 1 => match ordB n a with
    | true => false
    | false => noO n (a + 1) k
def agW (n : Nat) (W V : Nat → Nat) : Bool := allb (fun i => decide (W i = V i)) n
def chW (n : Nat) : Nat → Nat → Bool
  | 0, _ => false
  | k + 1, c => ordB n c && Nat.blt c (n ^ n) && (match nxW n (dig n c) with
    | none => noO n (c + 1) (n ^ n - (c + 1))
    | some W => Nat.blt c (cdW n W n) && (noO n (c + 1) (cdW n W n - (c + 1)) && (agW n W (dig n (cdW n W n)) && chW n k (cdW n W n))))
def c0W (n : Nat) : Nat := cdW n (fun i => i) n
theorem ch_1 : (chW 1 720 (c0W 1) && noO 1 0 (c0W 1)) = true := by decide +kernel
theorem ch_2 : (chW 2 720 (c0W 2) && noO 2 0 (c0W 2)) = true := by decide +kernel
theorem ch_3 : (chW 3 720 (c0W 3) && noO 3 0 (c0W 3)) = true := by decide +kernel
theorem ch_4 : (chW 4 720 (c0W 4) && noO 4 0 (c0W 4)) = true := by decide +kernel
theorem ch_5 : (chW 5 720 (c0W 5) && noO 5 0 (c0W 5)) = true := by decide +kernel
theorem ch_6 : (chW 6 720 (c0W 6) && noO 6 0 (c0W 6)) = true := by decide +kernel
