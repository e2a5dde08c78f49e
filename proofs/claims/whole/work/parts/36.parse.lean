/-! the text: what it tells -/
def ltr (t : Tx) (k : Nat) : Int32 := if k < t.1 then t.2 k else 0
def fig (t : Tx) (k : Nat) : Bool := inB (ltr t k) (nI 48) (nI 57)
def dgt (t : Tx) (k : Nat) : Nat := cN (ltr t k) - 48
def num1 (t : Tx) (a sep : Nat) : Option (Nat × Nat) := if fig t a then (if fig t (a + 1) then (if ltr t (a + 2) = nI sep then some (10 * dgt t a + dgt t (a + 1), a + 3) else none) else (if ltr t (a + 1) = nI sep then some (dgt t a, a + 2) else none)) else none
/-- j numbers more, the k-th next, from place a on -/
def rdK (t : Tx) : Nat → (Nat → Nat) → Nat → Nat → Option ((Nat → Nat) × Nat)
  | 0, v, _, a => some (v, a)
  | j + 1, v, k, a => match num1 t a (if j = 0 then 59 else 44) with
    | none => none
    | some q => rdK t j (fun i => if i = k then q.1 else v i) (k + 1) q.2
abbrev Rd : Type := To × (Nat → Nat) × (Nat → Nat)
def fog3 (p q r : Nat) : Nat → Nat := fun f => if f = 0 then p else if f = 1 then q else if f = 2 then r else 10 - p - q - r
def rd0 : Rd := (((0, (fun _ => 0), (fun _ => 0), (fun _ => 0)), (0, (fun _ => 0), (fun _ => 0)), fog3 4 3 2, nI 20), (fun _ => 0), (fun _ => 0))
def up {α : Type} (f : Nat → α) (k : Nat) (x : α) : Nat → α := fun i => if i = k then x else f i
def addT (r : Rd) (v : Nat → Nat) : Rd := (((r.1.1.1 + 1, up r.1.1.2.1 r.1.1.1 (v 0), up r.1.1.2.2.1 r.1.1.1 (nI (v 3)), up r.1.1.2.2.2 r.1.1.1 (v 4)), r.1.2), up r.2.1 r.1.1.1 (v 1), up r.2.2 r.1.1.1 (v 2))
def addS (r : Rd) (v : Nat → Nat) : Rd := ((r.1.1, (r.1.2.1.1 + 1, up r.1.2.1.2.1 r.1.2.1.1 (v 0), up r.1.2.1.2.2 r.1.2.1.1 (v 1)), r.1.2.2), r.2)
def setF (r : Rd) (v : Nat → Nat) : Rd := ((r.1.1, r.1.2.1, fog3 (v 0) (v 1) (v 2), r.1.2.2.2), r.2)
def setB (r : Rd) (v : Nat → Nat) : Rd := ((r.1.1, r.1.2.1, r.1.2.2.1, nI (v 0)), r.2)
def okT (r : Rd) (v : Nat → Nat) : Bool := decide (r.1.1.1 < 6) && (decide (v 0 ≤ 3) && (decide (v 1 ≤ 23) && ((decide (1 ≤ v 2) && decide (v 2 ≤ 12)) && (decide (v 3 ≤ 20) && decide (v 4 ≤ 3)))))
def okS (r : Rd) (v : Nat → Nat) : Bool := decide (r.1.2.1.1 < 5) && (decide (v 0 ≤ 23) && (decide (1 ≤ v 1) && decide (v 1 ≤ 12)))
def okF (v : Nat → Nat) : Bool := decide (v 0 + v 1 + v 2 ≤ 10)
def okB (v : Nat → Nat) : Bool := decide (v 0 ≤ 60)
/-- numbers read, held against a test, told -/
def tk (o : Option ((Nat → Nat) × Nat)) (ok : (Nat → Nat) → Bool) (put : (Nat → Nat) → Rd) : Option (Rd × Nat) := match o with
  | none => none
  | some q => if ok q.1 then some (put q.1, q.2) else none
def itm (t : Tx) (a : Nat) (r : Rd) : Option (Rd × Nat) :=
  if ltr t a = nI 116 then tk (rdK t 5 (fun _ => 0) 0 (a + 1)) (okT r) (addT r)
  else if ltr t a = nI 115 then tk (rdK t 2 (fun _ => 0) 0 (a + 1)) (okS r) (addS r)
  else if ltr t a = nI 102 then tk (rdK t 3 (fun _ => 0) 0 (a + 1)) okF (setF r)
  else if ltr t a = nI 98 then tk (rdK t 1 (fun _ => 0) 0 (a + 1)) okB (setB r)
  else none
def prs (t : Tx) : Nat → Nat → Rd → Int32 × Rd
  | 0, _, r => (-4, r)
  | k + 1, a, r => if a < t.1 then (match itm t a r with
    | none => (nI a, r)
    | some q => prs t k q.2 q.1) else (-4, r)
def d_fault (g : Sg) : Int32 × Sg := ((prs g.2.2.2.2.2 200 0 rd0).1, g)
def st0 (r : Rd) : St := (0, nI 0, (fun _ => nI 0), r.2.1, r.2.2)
def layG (g : Sg) (r : Rd) : Sg := (r.1, st0 r, (0, g.2.2.1.2), (0, g.2.2.2.1.2), (0, g.2.2.2.2.1.2), g.2.2.2.2.2)
def d_lay (g : Sg) : Int32 × Sg := if (prs g.2.2.2.2.2 200 0 rd0).1 = -4 ∧ ¬ (prs g.2.2.2.2.2 200 0 rd0).2.1.1.1 = 0 then (nI (prs g.2.2.2.2.2 200 0 rd0).2.1.1.1, layG g (prs g.2.2.2.2.2 200 0 rd0).2) else (-2, g)
theorem fig_val {t : Tx} {k : Nat} (h : fig t k = true) : k < t.1 ∧ t.2 k = nI (48 + dgt t k) ∧ dgt t k ≤ 9 := by
  unfold fig at h
  have h2 := h
  simp only [inB, Bool.and_eq_true, decide_eq_true_eq] at h2
  have hk : k < t.1 := by
    by_cases hk : k < t.1
    · exact hk
    · exfalso
      have h3 := h2.1
      rw [ltr, if_neg hk] at h3
      exact absurd h3 (by decide)
  obtain ⟨j, hj, e⟩ := inB_nat (v := ltr t k) (b := 57) (by decide) (by simp only [inB, Bool.and_eq_true, decide_eq_true_eq]; exact ⟨Int32.le_trans (by decide) h2.1, h2.2⟩)
  rw [e, inB_nI (by omega) (by omega) (by omega)] at h
  simp at h
  have hd : dgt t k = j - 48 := by unfold dgt; rw [e, cN_nI (by omega)]
  refine ⟨hk, ?_, by omega⟩
  have e2 : ltr t k = t.2 k := by rw [ltr, if_pos hk]
  rw [← e2, e, hd]
  congr 1
  omega
theorem lt_fig {t : Tx} {k : Nat} {d : Int32} (hd : d = -1 ∨ d = 0) : inB (if k < t.1 then t.2 k else d) (nI 48) (nI 57) = fig t k := by
  unfold fig ltr
  by_cases hk : k < t.1
  · rw [if_pos hk, if_pos hk]
  · rw [if_neg hk, if_neg hk]
    rcases hd with rfl | rfl <;> decide
theorem lt_eq {t : Tx} {k s : Nat} {d : Int32} (hd : d = -1 ∨ d = 0) (hs : s = 44 ∨ s = 59 ∨ s = 116 ∨ s = 115 ∨ s = 102 ∨ s = 98) : ((if k < t.1 then t.2 k else d) = nI s) ↔ ltr t k = nI s := by
  unfold ltr
  by_cases hk : k < t.1
  · rw [if_pos hk, if_pos hk]
  · rw [if_neg hk, if_neg hk]
    rcases hd with rfl | rfl <;> rcases hs with rfl | rfl | rfl | rfl | rfl | rfl <;> decide
theorem ltr_lt {t : Tx} {k s : Nat} (hs : s = 44 ∨ s = 59 ∨ s = 116 ∨ s = 115 ∨ s = 102 ∨ s = 98) (h : ltr t k = nI s) : k < t.1 := by
  by_cases hk : k < t.1
  · exact hk
  · exfalso
    rw [ltr, if_neg hk] at h
    revert h
    rcases hs with rfl | rfl | rfl | rfl | rfl | rfl <;> decide
theorem num1_le {t : Tx} {a s : Nat} {q : Nat × Nat} (hs : s = 44 ∨ s = 59) (h : num1 t a s = some q) : a < q.2 ∧ q.2 ≤ t.1 ∧ q.1 ≤ 99 := by
  unfold num1 at h
  have hs' : s = 44 ∨ s = 59 ∨ s = 116 ∨ s = 115 ∨ s = 102 ∨ s = 98 := by omega
  by_cases h1 : fig t a = true
  · rw [if_pos h1] at h
    have f1 := fig_val h1
    by_cases h2 : fig t (a + 1) = true
    · rw [if_pos h2] at h
      have f2 := fig_val h2
      by_cases h3 : ltr t (a + 2) = nI s
      · rw [if_pos h3] at h
        cases h
        have := ltr_lt hs' h3
        exact ⟨by simp, by simp; omega, by simp; omega⟩
      · rw [if_neg h3] at h; cases h
    · rw [if_neg h2] at h
      by_cases h3 : ltr t (a + 1) = nI s
      · rw [if_pos h3] at h
        cases h
        have := ltr_lt hs' h3
        exact ⟨by simp, by simp; omega, by simp; omega⟩
      · rw [if_neg h3] at h; cases h
  · rw [if_neg h1] at h; cases h
theorem sepOK (j : Nat) : (if j = 0 then 59 else 44) = 44 ∨ (if j = 0 then 59 else 44) = 59 := by split <;> simp
theorem rdK_le {t : Tx} : ∀ {j : Nat} {v : Nat → Nat} {k a : Nat} {q : (Nat → Nat) × Nat}, rdK t j v k a = some q → (∀ i, v i ≤ 99) → (∀ i, q.1 i ≤ 99) ∧ a ≤ q.2 ∧ (0 < j → a < q.2 ∧ q.2 ≤ t.1)
  | 0, v, k, a, q, h, hv => by cases h; exact ⟨hv, Nat.le_refl _, fun h => by omega⟩
  | j + 1, v, k, a, q, h, hv => by
    unfold rdK at h
    cases hn : num1 t a (if j = 0 then 59 else 44) with
    | none => rw [hn] at h; cases h
    | some p =>
      rw [hn] at h
      obtain ⟨n1, n2, n3⟩ := num1_le (sepOK j) hn
      obtain ⟨a1, a2, a3⟩ := rdK_le (j := j) h (fun i => by by_cases e : i = k <;> simp [e, n3, hv])
      refine ⟨a1, by omega, fun _ => ⟨by omega, ?_⟩⟩
      cases j with
      | zero => cases h; exact n2
      | succ j => exact (a3 (by omega)).2
theorem tk_some {o : Option ((Nat → Nat) × Nat)} {ok : (Nat → Nat) → Bool} {put : (Nat → Nat) → Rd} {q : Rd × Nat} (h : tk o ok put = some q) : ∃ v, o = some (v, q.2) ∧ ok v = true ∧ q.1 = put v := by
  unfold tk at h
  cases o with
  | none => cases h
  | some p =>
    simp only at h
    by_cases hk : ok p.1 = true
    · rw [if_pos hk] at h; cases h; exact ⟨p.1, rfl, hk, rfl⟩
    · rw [if_neg hk] at h; cases h
theorem itm_lt {t : Tx} {a : Nat} {r : Rd} {q : Rd × Nat} (h : itm t a r = some q) : a < q.2 ∧ q.2 ≤ t.1 := by
  have key : ∀ n, 0 < n → ∀ (ok : (Nat → Nat) → Bool) (put : (Nat → Nat) → Rd), tk (rdK t n (fun _ => 0) 0 (a + 1)) ok put = some q → a < q.2 ∧ q.2 ≤ t.1 := by
    intro n hn ok put h
    obtain ⟨v, h1, -, -⟩ := tk_some h
    have := (rdK_le h1 (fun _ => by omega)).2.2 hn
    exact ⟨by have := this.1; simp at this; omega, this.2⟩
  unfold itm at h
  split at h
  · exact key 5 (by omega) _ _ h
  · split at h
    · exact key 2 (by omega) _ _ h
    · split at h
      · exact key 3 (by omega) _ _ h
      · split at h
        · exact key 1 (by omega) _ _ h
        · cases h
/-- what is read is valid -/
def rdV (r : Rd) : Prop := (r.1.1.1 ≤ 6 ∧ ∀ i, i < r.1.1.1 → r.1.1.2.1 i < 4 ∧ (0 ≤ (r.1.1.2.2.1 i).toInt ∧ (r.1.1.2.2.1 i).toInt ≤ 20) ∧ r.1.1.2.2.2 i < 4) ∧ (r.1.2.1.1 ≤ 5 ∧ ∀ k, k < r.1.2.1.1 → r.1.2.1.2.1 k < 24 ∧ 1 ≤ r.1.2.1.2.2 k ∧ r.1.2.1.2.2 k ≤ 12) ∧ (r.1.2.2.1 0 + r.1.2.2.1 1 + r.1.2.2.1 2 + r.1.2.2.1 3 = 10) ∧ ∀ i, i < r.1.1.1 → r.2.1 i < 24 ∧ 1 ≤ r.2.2 i ∧ r.2.2 i ≤ 12
theorem rd0_V : rdV rd0 := ⟨⟨by decide, fun i hi => absurd hi (Nat.not_lt_zero i)⟩, ⟨by decide, fun i hi => absurd hi (Nat.not_lt_zero i)⟩, by decide, fun i hi => absurd hi (Nat.not_lt_zero i)⟩
theorem addT_V {r : Rd} {v : Nat → Nat} (h : rdV r) (ho : okT r v = true) : rdV (addT r v) := by
  obtain ⟨⟨a1, a2⟩, b, c, d⟩ := h
  simp only [okT, Bool.and_eq_true, decide_eq_true_eq] at ho
  obtain ⟨o1, o2, o3, ⟨o4, o5⟩, o6, o7⟩ := ho
  refine ⟨⟨by show r.1.1.1 + 1 ≤ 6; omega, fun i hi => ?_⟩, b, c, fun i hi => ?_⟩
  · have hi : i < r.1.1.1 + 1 := hi
    simp only [addT, up]
    by_cases e : i = r.1.1.1
    · simp only [if_pos e]
      rw [nI_toInt (by omega)]
      omega
    · simp only [if_neg e]
      exact a2 i (by omega)
  · have hi : i < r.1.1.1 + 1 := hi
    simp only [addT, up]
    by_cases e : i = r.1.1.1
    · simp only [if_pos e]
      omega
    · simp only [if_neg e]
      exact d i (by omega)
theorem addS_V {r : Rd} {v : Nat → Nat} (h : rdV r) (ho : okS r v = true) : rdV (addS r v) := by
  obtain ⟨a, ⟨b1, b2⟩, c, d⟩ := h
  simp only [okS, Bool.and_eq_true, decide_eq_true_eq] at ho
  obtain ⟨o1, o2, o3, o4⟩ := ho
  refine ⟨a, ⟨by show r.1.2.1.1 + 1 ≤ 5; omega, fun i hi => ?_⟩, c, d⟩
  have hi : i < r.1.2.1.1 + 1 := hi
  simp only [addS, up]
  by_cases e : i = r.1.2.1.1
  · simp only [if_pos e]; omega
  · simp only [if_neg e]; exact b2 i (by omega)
theorem setF_V {r : Rd} {v : Nat → Nat} (h : rdV r) (ho : okF v = true) : rdV (setF r v) := by
  obtain ⟨a, b, c, d⟩ := h
  simp only [okF, decide_eq_true_eq] at ho
  refine ⟨a, b, ?_, d⟩
  simp only [setF, fog3]
  simp
  omega
theorem itm_V {t : Tx} {a : Nat} {r : Rd} {q : Rd × Nat} (h : itm t a r = some q) (hr : rdV r) : rdV q.1 := by
  unfold itm at h
  split at h
  · obtain ⟨v, h1, h2, h3⟩ := tk_some h; rw [h3]; exact addT_V hr h2
  · split at h
    · obtain ⟨v, h1, h2, h3⟩ := tk_some h; rw [h3]; exact addS_V hr h2
    · split at h
      · obtain ⟨v, h1, h2, h3⟩ := tk_some h; rw [h3]; exact setF_V hr h2
      · split at h
        · obtain ⟨v, h1, h2, h3⟩ := tk_some h; rw [h3]; exact hr
        · cases h
theorem prs_V {t : Tx} : ∀ (k a : Nat) (r : Rd), rdV r → rdV (prs t k a r).2
  | 0, a, r, h => h
  | k + 1, a, r, h => by
    unfold prs
    split
    · cases hi : itm t a r with
      | none => exact h
      | some q => exact prs_V k q.2 q.1 (itm_V hi h)
    · exact h
