/-! ===== Int32 by its bits: bt x i ===== -/
def bt (x : Int32) (i : Nat) : Bool := x.toBitVec.getLsbD i
theorem b_ext {x y : Int32} (h : ∀ i, i < 32 → bt x i = bt y i) : x = y := Int32.toBitVec_inj.mp (BitVec.eq_of_getLsbD_eq (fun i hi => h i hi))
theorem b_or (x y : Int32) (i : Nat) : bt (x ||| y) i = (bt x i || bt y i) := by unfold bt; rw [Int32.toBitVec_or, BitVec.getLsbD_or]
theorem b_and (x y : Int32) (i : Nat) : bt (x &&& y) i = (bt x i && bt y i) := by unfold bt; rw [Int32.toBitVec_and, BitVec.getLsbD_and]
theorem b_xor (x y : Int32) (i : Nat) : bt (x ^^^ y) i = (bt x i ^^ bt y i) := by unfold bt; rw [Int32.toBitVec_xor, BitVec.getLsbD_xor]
theorem b_big {x : Int32} {i : Nat} (h : 32 ≤ i) : bt x i = false := BitVec.getLsbD_of_ge _ _ h
theorem b_255 (i : Nat) : bt 255 i = decide (i < 8) := by
  rcases Nat.lt_or_ge i 32 with h | h
  · exact (by decide +kernel : ∀ i, i < 32 → bt 255 i = decide (i < 8)) i h
  · rw [b_big h, decide_eq_false (by omega)]
theorem b_65535 (i : Nat) : bt 65535 i = decide (i < 16) := by
  rcases Nat.lt_or_ge i 32 with h | h
  · exact (by decide +kernel : ∀ i, i < 32 → bt 65535 i = decide (i < 16)) i h
  · rw [b_big h, decide_eq_false (by omega)]
theorem b_m1 : ∀ i, i < 32 → bt (-1) i = true := by decide +kernel
theorem b_0 (i : Nat) : bt 0 i = false := BitVec.getLsbD_zero
theorem s_l : ∀ n, n < 32 → ((nI n &&& 31).toBitVec.smod 32).toNat = n := by decide +kernel
theorem s_u : ∀ n, n < 32 → (((nI n).toUInt32 &&& Int32.toUInt32 31).toBitVec % 32).toNat = n := by decide +kernel
theorem b_shl (n : Nat) (hn : n < 32) (x : Int32) {i : Nat} (hi : i < 32) : bt (x <<< (nI n &&& 31)) i = (decide (n ≤ i) && bt x (i - n)) := by
  unfold bt
  rw [Int32.toBitVec_shiftLeft]
  show (x.toBitVec <<< ((nI n &&& 31).toBitVec.smod 32).toNat).getLsbD i = _
  rw [s_l n hn, BitVec.getLsbD_shiftLeft]
  rcases Nat.lt_or_ge i n with h | h
  · simp [h, Nat.not_le.mpr h]
  · simp [hi, h, Nat.not_lt.mpr h]
theorem b_ushr (n : Nat) (hn : n < 32) (x : Int32) (i : Nat) : bt ((x.toUInt32 >>> ((nI n).toUInt32 &&& Int32.toUInt32 31)).toInt32) i = bt x (n + i) := by
  show (x.toUInt32 >>> ((nI n).toUInt32 &&& Int32.toUInt32 31)).toBitVec.getLsbD i = x.toUInt32.toBitVec.getLsbD (n + i)
  rw [UInt32.toBitVec_shiftRight]
  show (x.toUInt32.toBitVec >>> (((nI n).toUInt32 &&& Int32.toUInt32 31).toBitVec % 32).toNat).getLsbD i = _
  rw [s_u n hn, BitVec.getLsbD_ushiftRight]
theorem b_sshr (n : Nat) (hn : n < 32) (x : Int32) {i : Nat} (hi : i < 32) : bt (x >>> (nI n &&& 31)) i = if n + i < 32 then bt x (n + i) else bt x 31 := by
  unfold bt
  rw [Int32.toBitVec_shiftRight]
  show (x.toBitVec.sshiftRight ((nI n &&& 31).toBitVec.smod 32).toNat).getLsbD i = _
  rw [s_l n hn, BitVec.getLsbD_sshiftRight, BitVec.msb_eq_getLsbD_last]
  simp [hi]

/-! one bit, sets of bits, counts -/
theorem bt_nI (n i : Nat) (hi : i < 32) : bt (nI n) i = n.testBit i := by
  show (BitVec.ofNat 32 n).getLsbD i = n.testBit i
  rw [BitVec.getLsbD_ofNat]; simp [hi]
theorem bt_1 {i : Nat} (hi : i < 32) : bt (nI 1) i = decide (i = 0) := by
  rw [bt_nI 1 i hi]
  exact (by decide +kernel : ∀ i, i < 32 → Nat.testBit 1 i = decide (i = 0)) i hi
theorem bit1 (x : Int32) {j : Nat} (hj : j < 32) : (x >>> (nI j &&& 31)) &&& nI 1 = bI (bt x j) := by
  apply b_ext
  intro i hi
  rw [b_and, b_sshr j hj x hi, bt_1 hi]
  by_cases h : i = 0
  · subst h
    simp only [Nat.add_zero, hj, if_true, decide_true, Bool.and_true]
    cases bt x j <;> decide
  · simp only [h, decide_false, Bool.and_false]
    have h2 : bt (bI (bt x j)) i = false := by
      cases bt x j
      · rw [bI_f, nI_0]; exact b_0 i
      · rw [bI_t, bt_1 hi]; simp [h]
    rw [h2]
theorem one_shl {j : Nat} (hj : j < 32) {i : Nat} (hi : i < 32) : bt (nI 1 <<< (nI j &&& 31)) i = decide (i = j) := by
  rw [b_shl j hj _ hi]
  by_cases h : j ≤ i
  · rw [bt_1 (by omega)]
    by_cases h2 : i = j
    · subst h2; simp
    · have : ¬ i - j = 0 := by omega
      simp [h2, this]
  · have : ¬ i = j := by omega
    simp [h, this]
theorem bt_not (x : Int32) {i : Nat} (hi : i < 32) : bt (x ^^^ (-1)) i = !bt x i := by
  rw [b_xor, b_m1 i hi]; simp
/-- the set of those k < n of which p holds, as bits -/
def bset (p : Nat → Bool) : Nat → Int32
  | 0 => nI 0
  | n + 1 => if p n then bset p n ||| (nI 1 <<< (nI n &&& 31)) else bset p n
theorem bt_bset (p : Nat → Bool) : ∀ (n : Nat), n ≤ 32 → ∀ i, i < 32 → bt (bset p n) i = (decide (i < n) && p i)
  | 0, _, i, _ => by rw [bset, nI_0, b_0]; simp
  | n + 1, hn, i, hi => by
    have ih := bt_bset p n (by omega) i hi
    unfold bset
    by_cases hp : p n = true
    · rw [if_pos hp, b_or, ih, one_shl (by omega) hi]
      by_cases h : i = n
      · subst h; simp [hp]
      · have e : decide (i < n + 1) = decide (i < n) := by apply decide_eq_decide.mpr; omega
        simp [h, e]
    · rw [if_neg hp, ih]
      by_cases h : i = n
      · subst h; simp [hp]
      · have e : decide (i < n + 1) = decide (i < n) := by apply decide_eq_decide.mpr; omega
        rw [e]
theorem bset_congr {p q : Nat → Bool} : ∀ (n : Nat), (∀ i, i < n → p i = q i) → bset p n = bset q n
  | 0, _ => rfl
  | n + 1, h => by unfold bset; rw [bset_congr n (fun i hi => h i (by omega)), h n (by omega)]
/-- a row's step: the bit comes, or nothing (0) -/
theorem bset_or (p : Nat → Bool) (n : Nat) : bset p n ||| (if p n then nI 1 <<< (nI n &&& 31) else nI 0) = bset p (n + 1) := by
  rw [show bset p (n + 1) = if p n then bset p n ||| (nI 1 <<< (nI n &&& 31)) else bset p n from rfl]
  by_cases h : p n = true
  · rw [if_pos h, if_pos h]
  · rw [if_neg h, if_neg h, nI_0]
    apply b_ext
    intro i hi
    rw [b_or, b_0]; simp
/-- how many k < n have p -/
def cnt (p : Nat → Bool) : Nat → Nat
  | 0 => 0
  | n + 1 => cnt p n + (if p n then 1 else 0)
theorem cnt_le (p : Nat → Bool) : ∀ n, cnt p n ≤ n
  | 0 => Nat.le_refl 0
  | n + 1 => by have := cnt_le p n; unfold cnt; split <;> omega
theorem cnt_congr {p q : Nat → Bool} : ∀ (n : Nat), (∀ i, i < n → p i = q i) → cnt p n = cnt q n
  | 0, _ => rfl
  | n + 1, h => by unfold cnt; rw [cnt_congr n (fun i hi => h i (by omega)), h n (by omega)]
theorem cnt_more {p : Nat → Bool} {a : Nat} : ∀ b, a ≤ b → (∀ i, a ≤ i → i < b → p i = false) → cnt p b = cnt p a
  | 0, h, _ => by have : a = 0 := by omega
                  subst this; rfl
  | b + 1, h, hp => by
    by_cases e : a = b + 1
    · subst e; rfl
    · have ih := cnt_more b (by omega) (fun i h1 h2 => hp i h1 (by omega))
      rw [show cnt p (b + 1) = cnt p b + (if p b then 1 else 0) from rfl, ih, hp b (by omega) (by omega)]; simp
/-- the first k < n that has p -/
def fst (p : Nat → Bool) : Nat → Option Nat
  | 0 => none
  | n + 1 => match fst p n with
    | some k => some k
    | none => if p n then some n else none
theorem fst_some {p : Nat → Bool} : ∀ {n k : Nat}, fst p n = some k → k < n ∧ p k = true ∧ ∀ j, j < k → p j = false
  | 0, k, h => by cases h
  | n + 1, k, h => by
    unfold fst at h
    cases hf : fst p n with
    | some m =>
      rw [hf] at h
      cases h
      obtain ⟨h1, h2, h3⟩ := fst_some hf
      exact ⟨by omega, h2, h3⟩
    | none =>
      rw [hf] at h
      by_cases hp : p n = true
      · simp only [hp, if_true] at h
        cases h
        exact ⟨by omega, hp, fun j hj => (fst_none hf) j hj⟩
      · simp [hp] at h
where fst_none {p : Nat → Bool} : ∀ {n : Nat}, fst p n = none → ∀ j, j < n → p j = false
  | 0, _, j, hj => by omega
  | n + 1, h, j, hj => by
    unfold fst at h
    cases hf : fst p n with
    | some m => rw [hf] at h; cases h
    | none =>
      rw [hf] at h
      by_cases hp : p n = true
      · simp [hp] at h
      · by_cases hjn : j = n
        · subst hjn; simpa using hp
        · exact fst_none hf j (by omega)
theorem fst_none {p : Nat → Bool} {n : Nat} (h : fst p n = none) : ∀ j, j < n → p j = false := fst_some.fst_none h
theorem fst_eq {p : Nat → Bool} {n k : Nat} (h1 : k < n) (h2 : p k = true) (h3 : ∀ j, j < k → p j = false) : fst p n = some k := by
  cases hf : fst p n with
  | none => rw [fst_none hf k h1] at h2; cases h2
  | some m =>
    obtain ⟨a, b, c⟩ := fst_some hf
    rcases Nat.lt_trichotomy m k with h | h | h
    · rw [h3 m h] at b; cases b
    · rw [h]
    · rw [c k h] at h2; cases h2
theorem fst_no {p : Nat → Bool} {n : Nat} (h : ∀ j, j < n → p j = false) : fst p n = none := by
  cases hf : fst p n with
  | none => rfl
  | some m =>
    obtain ⟨a, b, c⟩ := fst_some hf
    rw [h m a] at b; cases b
theorem fst_congr {p q : Nat → Bool} {n : Nat} (h : ∀ i, i < n → p i = q i) : fst p n = fst q n := by
  cases hf : fst q n with
  | none => exact fst_no (fun j hj => by rw [h j hj]; exact fst_none hf j hj)
  | some m =>
    obtain ⟨a, b, c⟩ := fst_some hf
    exact fst_eq a (by rw [h m a]; exact b) (fun j hj => by rw [h j (by omega)]; exact c j hj)
/-- all, any k < n -/
def allb (p : Nat → Bool) : Nat → Bool
  | 0 => true
  | n + 1 => allb p n && p n
def anyb (p : Nat → Bool) : Nat → Bool
  | 0 => false
  | n + 1 => anyb p n || p n
theorem allb_iff {p : Nat → Bool} : ∀ {n : Nat}, allb p n = true ↔ ∀ i, i < n → p i = true
  | 0 => by simp [allb]
  | n + 1 => by
    unfold allb
    rw [Bool.and_eq_true, allb_iff]
    refine ⟨fun h i hi => ?_, fun h => ⟨fun i hi => h i (by omega), h n (by omega)⟩⟩
    by_cases e : i = n
    · subst e; exact h.2
    · exact h.1 i (by omega)
theorem anyb_iff {p : Nat → Bool} : ∀ {n : Nat}, anyb p n = true ↔ ∃ i, i < n ∧ p i = true
  | 0 => by simp [anyb]
  | n + 1 => by
    unfold anyb
    rw [Bool.or_eq_true, anyb_iff]
    refine ⟨fun h => ?_, fun ⟨i, hi, hp⟩ => ?_⟩
    · rcases h with ⟨i, hi, hp⟩ | h
      · exact ⟨i, by omega, hp⟩
      · exact ⟨n, by omega, h⟩
    · by_cases e : i = n
      · subst e; exact Or.inr hp
      · exact Or.inl ⟨i, by omega, hp⟩
/-- a ≤ v ≤ b -/
def inB (v a b : Int32) : Bool := decide (a ≤ v) && decide (v ≤ b)
theorem i_nlt {x y : Int32} (h : ¬ x < y) : y ≤ x := Int32.not_lt.mp h
theorem i_lt {x y : Int32} (h : ¬ x ≤ y) : y < x := Int32.not_le.mp h
theorem i_nle {x y : Int32} (h : x < y) : ¬ y ≤ x := Int32.not_le.mpr h
theorem bI_1 {b : Bool} : bI b = nI 1 ↔ b = true := by cases b <;> decide
theorem bI_n1 {b : Bool} (h : ¬ bI b = nI 1) : nI 0 = bI b := by cases b; rfl; exact absurd rfl h
theorem bI_tt {b : Bool} (h : b = true) : nI 1 = bI b := by subst h; rfl
theorem bI_ff {b : Bool} (h : b = false) : nI 0 = bI b := by subst h; rfl
theorem nI_cnt (p : Nat → Bool) (n : Nat) : nI (cnt p n) + bI (p n) = nI (cnt p (n + 1)) := by
  rw [show cnt p (n + 1) = cnt p n + (if p n then 1 else 0) from rfl, ← nI_add]
  cases p n <;> rfl
theorem i_lt_iff {x y : Int32} : x < y ↔ x.toInt < y.toInt := Int32.lt_iff_toInt_lt
theorem i_le_iff {x y : Int32} : x ≤ y ↔ x.toInt ≤ y.toInt := Int32.le_iff_toInt_le
/-- an int in a range of naturals -/
theorem inB_nat {v : Int32} {b : Nat} (hb : b < 2 ^ 31) : inB v (nI 0) (nI b) = true → ∃ j, j ≤ b ∧ v = nI j := by
  intro h
  simp only [inB, Bool.and_eq_true, decide_eq_true_eq] at h
  rw [i_le_iff, i_le_iff, nI_toInt hb, nI_0] at h
  obtain ⟨j, hj, rfl⟩ := nI_of (x := v) (by rw [i_lt_iff]; have := h.1; simp at this ⊢; omega)
  refine ⟨j, ?_, rfl⟩
  rw [nI_toInt hj] at h
  omega
theorem inB_nI {j a b : Nat} (hj : j < 2 ^ 31) (ha : a < 2 ^ 31) (hb : b < 2 ^ 31) : inB (nI j) (nI a) (nI b) = (decide (a ≤ j) && decide (j ≤ b)) := by
  simp only [inB, nI_leI ha hj, nI_leI hj hb]
/-- 0 ≤ v ≤ n - 1 -/
theorem inB_lt {v : Int32} {n : Nat} (hn : n < 2 ^ 31) : inB v (nI 0) (nI n - nI 1) = true ↔ ∃ j, j < n ∧ v = nI j := by
  by_cases h0 : n = 0
  · subst h0
    constructor
    · intro h
      simp only [inB, Bool.and_eq_true, decide_eq_true_eq] at h
      exfalso
      have h1 := i_le_iff.mp h.1
      have h2 := i_le_iff.mp h.2
      rw [show (nI 0 - nI 1).toInt = -1 by decide] at h2
      rw [show (nI 0).toInt = 0 by decide] at h1
      omega
    · rintro ⟨j, hj, _⟩; omega
  · rw [pk_sub (show 1 ≤ n by omega)]
    constructor
    · intro h
      obtain ⟨j, hj, e⟩ := inB_nat (by omega) h
      exact ⟨j, by omega, e⟩
    · rintro ⟨j, hj, rfl⟩
      rw [inB_nI (by omega) (by omega) (by omega)]
      simp; omega
theorem inB_no {v : Int32} {n : Nat} (hn : n < 2 ^ 31) (h : inB v (nI 0) (nI n - nI 1) = false) : ∀ j, j < n → v ≠ nI j := by
  intro j hj e
  have := (inB_lt hn).mpr ⟨j, hj, e⟩
  rw [h] at this; cases this
