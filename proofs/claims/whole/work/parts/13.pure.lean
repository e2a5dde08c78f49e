/-! the light: who shines where -/
abbrev Td : Type := Nat × (Nat → Nat) × (Nat → Int32) × (Nat → Nat)
abbrev Pl : Type := Nat × (Nat → Nat) × (Nat → Nat)
def bh (a s : Nat) : Nat := (s + 24 - a) % 24
def proud (t : Td) (i : Nat) : Bool := allb (fun j => decide (j = i) || (decide (¬ t.2.1 j = t.2.1 i) || decide (t.2.2.1 j ≤ t.2.2.1 i))) t.1
def kOK (t : Td) (night i b : Nat) : Bool := match t.2.2.2 i with
  | 0 => true
  | 1 => decide (night % 2 = 0)
  | 2 => decide ((b % 2 = 0) ↔ (night % 2 = 0))
  | _ => proud t i
def shn (t : Td) (p : Pl) (i s : Nat) : Bool := decide (bh (p.2.1 i) s < p.2.2 i) && kOK t p.1 i (bh (p.2.1 i) s)
def who (t : Td) (p : Pl) (lit : Nat → Bool) (s : Nat) : Option Nat := fst (fun i => lit i && shn t p i s) t.1
def clo (t : Td) (o : Option Nat) (smk : Bool) : Nat := match o with
  | none => 4
  | some i => if smk then 4 else t.2.1 i
def cof (t : Td) (p : Pl) (lit smk : Nat → Bool) (s : Nat) : Nat := clo t (who t p lit s) (smk s)
def wI (o : Option Nat) : Int32 := match o with
  | none => -1
  | some i => nI i
def wN (o : Option Nat) : Int32 := match o with
  | none => -4
  | some i => nI i
/-- the first k with i ≤ k < n that has p -/
def lst (p : Nat → Bool) (i n : Nat) : Option Nat := fst (fun k => decide (i ≤ k) && p k) n
theorem lst_n (p : Nat → Bool) (n : Nat) : lst p n n = none := by
  refine fst_no (fun j hj => ?_)
  simp [show ¬ n ≤ j by omega]
theorem lst_0 (p : Nat → Bool) (n : Nat) : lst p 0 n = fst p n := fst_congr (fun j _ => by simp)
theorem lst_s {p : Nat → Bool} {i n : Nat} (hi : i < n) : lst p i n = if p i then some i else lst p (i + 1) n := by
  by_cases hp : p i = true
  · rw [if_pos hp]
    refine fst_eq hi (by simp [hp]) (fun j hj => ?_)
    simp [show ¬ i ≤ j by omega]
  · rw [if_neg hp]
    refine fst_congr (fun j _ => ?_)
    by_cases h : j = i
    · subst h; simp [hp]
    · have : decide (i ≤ j) = decide (i + 1 ≤ j) := by apply decide_eq_decide.mpr; omega
      simp [this]
/-- a ship sees stripe s -/
def seb (a n s : Nat) : Bool := decide (bh a s < n)
/-- the first sign: colours cl (by stripe), what is seen, in fog f -/
def sgp (cl : Nat → Nat) (se : Nat → Bool) (f c : Nat) : Bool := anyb (fun s => decide (cl s = c) && se s) 24 && (!(anyb (fun s => decide (cl s = c) && !(se s)) 24) && decide (c + f < 4))
def sgn (cl : Nat → Nat) (se : Nat → Bool) (f : Nat) : Option Nat := fst (sgp cl se f) 4
theorem bh_lt (a s : Nat) : bh a s < 24 := Nat.mod_lt _ (by decide)
theorem who_lt {t : Td} {p : Pl} {lit : Nat → Bool} {s i : Nat} (h : who t p lit s = some i) : i < t.1 := (fst_some h).1
theorem cof_le {t : Td} {p : Pl} {lit smk : Nat → Bool} (ht : ∀ i, i < t.1 → t.2.1 i < 4) (s : Nat) : cof t p lit smk s ≤ 4 := by
  unfold cof clo
  cases h : who t p lit s with
  | none => exact Nat.le_refl 4
  | some i =>
    have := ht i (who_lt h)
    simp only
    split <;> omega
theorem cof_4 {t : Td} {p : Pl} {lit smk : Nat → Bool} (ht : ∀ i, i < t.1 → t.2.1 i < 4) (s : Nat) : cof t p lit smk s = 4 ↔ (who t p lit s = none ∨ smk s = true) := by
  unfold cof clo
  cases h : who t p lit s with
  | none => simp
  | some i =>
    have h4 := ht i (who_lt h)
    cases hs : smk s
    · simp; omega
    · simp
