/-! orders by their digits as a set -/
theorem msN_bit (n : Nat) : ∀ (k x b : Nat), (msN n k x).testBit b = true ↔ ∃ i, i < k ∧ x / n ^ i % n = b
  | 0, x, b => by simp [msN]
  | k + 1, x, b => by
    unfold msN
    rw [Nat.testBit_or, Bool.or_eq_true, msN_bit n k (x / n) b, Nat.testBit_two_pow]
    constructor
    · rintro (⟨i, hi, h⟩ | h)
      · refine ⟨i + 1, by omega, ?_⟩
        rw [Nat.pow_succ, Nat.mul_comm, ← Nat.div_div_eq_div_mul]
        exact h
      · exact ⟨0, by omega, by simpa using h⟩
    · rintro ⟨i, hi, h⟩
      cases i with
      | zero => right; simpa using h
      | succ i =>
        left
        refine ⟨i, by omega, ?_⟩
        rw [Nat.pow_succ, Nat.mul_comm, ← Nat.div_div_eq_div_mul] at h
        exact h
theorem ordB_iff {n c : Nat} (h0 : 0 < n) : ordB n c = true ↔ isOrd n c = true := by
  unfold ordB isOrd
  rw [Nat.beq_eq, allb_iff]
  constructor
  · intro h b hb
    have h1 : (msN n n c).testBit b = true := by rw [h, Nat.testBit_two_pow_sub_one]; simp [hb]
    obtain ⟨i, hi, h2⟩ := (msN_bit n n c b).mp h1
    rw [anyb_iff]
    refine ⟨n - 1 - i, by omega, ?_⟩
    unfold dig
    rw [show n - 1 - (n - 1 - i) = i by omega]
    simp [h2]
  · intro h
    apply Nat.eq_of_testBit_eq
    intro b
    rw [Nat.testBit_two_pow_sub_one]
    by_cases hb : b < n
    · obtain ⟨i, hi, h2⟩ := anyb_iff.mp (h b hb)
      have h3 : dig n c i = b := by simpa using h2
      rw [(msN_bit n n c b).mpr ⟨n - 1 - i, by omega, h3⟩]
      simp [hb]
    · simp only [hb, decide_false]
      cases hq : (msN n n c).testBit b
      · rfl
      · obtain ⟨i, hi, h2⟩ := (msN_bit n n c b).mp hq
        have := Nat.mod_lt (c / n ^ i) h0
        omega
theorem noO_iff {n : Nat} (h0 : 0 < n) : ∀ {k a : Nat}, noO n a k = true → ∀ c, a ≤ c → c < a + k → isOrd n c = false
  | 0, a, _, c, h1, h2 => by omega
  | k + 1, a, h, c, h1, h2 => by
    unfold noO at h
    cases ho : ordB n a with
    | true => rw [ho] at h; cases h
    | false =>
      rw [ho] at h
      by_cases e : c = a
      · subst e
        cases hi : isOrd n c
        · rfl
        · rw [(ordB_iff h0).mpr hi] at ho; cases ho
      · exact noO_iff h0 h c (by omega) (by omega)
theorem odF_skip {o : To} {x : St} {a : Nat} : ∀ {b : Nat}, a ≤ b → (∀ c, a ≤ c → c < b → isOrd o.1.1 c = false) → odF o x b = odF o x a
  | 0, h, _ => by rw [show a = 0 by omega]
  | b + 1, h, hno => by
    by_cases e : a = b + 1
    · rw [e]
    · have hs : odF o x (b + 1) = odF o x b := by simp [odF, hno b (by omega) (by omega)]
      rw [hs]
      exact odF_skip (by omega) (fun c h1 h2 => hno c h1 (by omega))
theorem ch_n (n : Nat) (h1 : 1 ≤ n) (h2 : n ≤ 6) : chW n 720 (c0W n) = true ∧ noO n 0 (c0W n) = true := by
  rcases (show n = 1 ∨ n = 2 ∨ n = 3 ∨ n = 4 ∨ n = 5 ∨ n = 6 by omega) with rfl | rfl | rfl | rfl | rfl | rfl
  · exact Bool.and_eq_true_iff.mp ch_1
  · exact Bool.and_eq_true_iff.mp ch_2
  · exact Bool.and_eq_true_iff.mp ch_3
  · exact Bool.and_eq_true_iff.mp ch_4
  · exact Bool.and_eq_true_iff.mp ch_5
  · exact Bool.and_eq_true_iff.mp ch_6
theorem ch_s {n k c : Nat} (h0 : 0 < n) (h : chW n k c = true) : ∃ j, k = j + 1 ∧ isOrd n c = true ∧ c < n ^ n ∧ (nxW n (dig n c) = none → ∀ d, c < d → d < n ^ n → isOrd n d = false) ∧ ∀ W, nxW n (dig n c) = some W → ∃ d, c < d ∧ (∀ e, c < e → e < d → isOrd n e = false) ∧ (∀ i, i < n → W i = dig n d i) ∧ chW n j d = true := by
  cases k with
  | zero => cases h
  | succ j =>
    unfold chW at h
    simp only [Bool.and_eq_true] at h
    obtain ⟨⟨a1, a2⟩, a3⟩ := h
    have a2 : c < n ^ n := by simp [Nat.blt] at a2; omega
    refine ⟨j, rfl, (ordB_iff h0).mp a1, a2, fun hn d h1 h2 => ?_, fun W hW => ?_⟩
    · rw [hn] at a3
      exact noO_iff h0 a3 d (by omega) (by omega)
    · rw [hW] at a3
      simp only [Bool.and_eq_true] at a3
      obtain ⟨b1, b2, b3, b4⟩ := a3
      have b1 : c < cdW n W n := by simp [Nat.blt] at b1; omega
      refine ⟨cdW n W n, b1, fun e h1 h2 => noO_iff h0 b2 e (by omega) (by omega), fun i hi => ?_, b4⟩
      exact of_decide_eq_true (allb_iff.mp b3 i hi)
