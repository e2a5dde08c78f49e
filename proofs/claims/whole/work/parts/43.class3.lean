/-! the class: states -/
def stX (M : MM) (S n : Nat) (x : St) : Prop := M S 0 = nI x.1 ∧ M S 4 = x.2.1 ∧ ∀ i, i < n → M (S + 1) i = x.2.2.1 i ∧ M (S + 2) i = nI (x.2.2.2.1 i) ∧ M (S + 3) i = nI (x.2.2.2.2 i)
theorem stX.of {M M' : MM} {S n : Nat} {x : St} (h : stX M S n x) (hc : ∀ c, S ≤ c → c ≤ S + 3 → M' c = M c) : stX M' S n x := by
  unfold stX
  rw [hc S (by omega) (by omega), hc (S + 1) (by omega) (by omega), hc (S + 2) (by omega) (by omega), hc (S + 3) (by omega) (by omega)]
  exact h
/-- two cells of a kind -/
def apt (a n b m : Nat) : Prop := a + n ≤ b ∨ b + m ≤ a
theorem x_copy {sh : Sh} {Mr : MR} {S O : Nat} (hS : SA sh Mr S) (hO : SA sh Mr O) (hd : S + 4 ≤ O ∨ O + 4 ≤ S) (M : MM) : CtV mX7_copy [.ref S, .ref O] sh Mr M (fun M' => (∀ c, c < S ∨ S + 4 ≤ c → M' c = M c) ∧ ∀ n x, n ≤ 6 → stX M O n x → stX M' S n x) := by
  refine ct_of (mi := mX7_copy) (ls := [some (.ref S), some (.ref O), none]) rfl rfl (Nat.le_of_ble_eq_true rfl) rfl ?_
  refine (ex_al0 dX7_copy_0 (ex_al1 dX7_copy_1 (ex_getI dX7_copy_2 flX7_21 (sa_sh hO) (ex_putI dX7_copy_5 (fpX7_21 _) (sa_sh hS) (ex_al0 dX7_copy_8 (ex_al1 dX7_copy_9 (ex_getI dX7_copy_10 flX7_25 (sa_sh hO) (ex_top (y := (M O 4)) (by rw [wr_oc (by omega)]) (ex_putI dX7_copy_13 (fpX7_25 _) (sa_sh hS) (ex_iconst (v := nI 0) dX7_copy_16 rfl (ex_is2 dX7_copy_17 (Nat.le_of_ble_eq_true rfl) rfl ?_)))))))))))
  refine ex_for (I := fun i ls M' => ls = [some (.ref S), some (.ref O), some (.int (nI i))] ∧ M' = fun c j => if c = S + 1 ∧ j < i then M (O + 1) j else if c = S + 2 ∧ j < i then M (O + 2) j else if c = S + 3 ∧ j < i then M (O + 3) j else wr (wr M S 0 (M O 0)) S 4 (M O 4) c j) 6 ?_ ?_ 0 _ _ (Nat.zero_le _) ⟨rfl, by funext c j; simp⟩
  · intro i ls M' hi h ih
    obtain ⟨rfl, hM'⟩ := h
    have e1 : M' (O + 1) i = M (O + 1) i := by rw [hM']; simp only [show ¬ O + 1 = S + 1 by omega, show ¬ O + 1 = S + 2 by omega, show ¬ O + 1 = S + 3 by omega, false_and, if_false]; rw [wr_oc (by omega), wr_oc (by omega)]
    have e2 : M' (O + 2) i = M (O + 2) i := by rw [hM']; simp only [show ¬ O + 2 = S + 1 by omega, show ¬ O + 2 = S + 2 by omega, show ¬ O + 2 = S + 3 by omega, false_and, if_false]; rw [wr_oc (by omega), wr_oc (by omega)]
    have e3 : M' (O + 3) i = M (O + 3) i := by rw [hM']; simp only [show ¬ O + 3 = S + 1 by omega, show ¬ O + 3 = S + 2 by omega, show ¬ O + 3 = S + 3 by omega, false_and, if_false]; rw [wr_oc (by omega), wr_oc (by omega)]
    refine (ex_il2 dX7_copy_18 (ex_bipush (v := nI 6) dX7_copy_19 rfl (ex_icmp_geN (tgt := 66) dX7_copy_21 rfl (by omega) (by omega) (fun c21 => (absurd c21 (by omega))) (fun c21 => (ex_al0 dX7_copy_24 (ex_getR dX7_copy_25 flX7_9 (sa_sh hS) (sa_r1 hS) (ex_il2 dX7_copy_28 (ex_al1 dX7_copy_29 (ex_getR dX7_copy_30 flX7_9 (sa_sh hO) (sa_r1 hO) (ex_il2 dX7_copy_33 (ex_ildN dX7_copy_34 (sa_a1 hO) (by omega) (by omega) (ex_top (e1) (ex_istN dX7_copy_35 (sa_a1 hS) (by omega) (by omega) (ex_al0 dX7_copy_36 (ex_getR dX7_copy_37 flX7_15 (sa_sh hS) (sa_r2 hS) (ex_il2 dX7_copy_40 (ex_al1 dX7_copy_41 (ex_getR dX7_copy_42 flX7_15 (sa_sh hO) (sa_r2 hO) (ex_il2 dX7_copy_45 (ex_ildN dX7_copy_46 (sa_a2 hO) (by omega) (by omega) (ex_top (y := (M (O + 2) i)) (by rw [wr_oc (by omega)]; exact e2) (ex_istN dX7_copy_47 (sa_a2 hS) (by omega) (by omega) (ex_al0 dX7_copy_48 (ex_getR dX7_copy_49 flX7_18 (sa_sh hS) (sa_r3 hS) (ex_il2 dX7_copy_52 (ex_al1 dX7_copy_53 (ex_getR dX7_copy_54 flX7_18 (sa_sh hO) (sa_r3 hO) (ex_il2 dX7_copy_57 (ex_ildN dX7_copy_58 (sa_a3 hO) (by omega) (by omega) (ex_top (y := (M (O + 3) i)) (by rw [wr_oc (by omega), wr_oc (by omega)]; exact e3) (ex_istN dX7_copy_59 (sa_a3 hS) (by omega) (by omega) (ex_inc2 dX7_copy_60 (Nat.le_of_ble_eq_true rfl) rfl (inc1 _) (ex_goto (tgt := 18) dX7_copy_63 rfl ?_)))))))))))))))))))))))))))))))))
    refine ih _ _ ⟨rfl, ?_⟩
    funext c j
    by_cases h3 : c = S + 3
    · subst h3
      by_cases hj : j = i
      · subst hj; rw [wr_s]; simp
      · rw [wr_oi hj, wr_oc (by omega), wr_oc (by omega), hM']
        have e : j < i + 1 ↔ j < i := by omega
        simp [e]
    · rw [wr_oc h3]
      by_cases h2 : c = S + 2
      · subst h2
        by_cases hj : j = i
        · subst hj; rw [wr_s]; simp
        · rw [wr_oi hj, wr_oc (by omega), hM']
          have e : j < i + 1 ↔ j < i := by omega
          simp [e]
      · rw [wr_oc h2]
        by_cases h1 : c = S + 1
        · subst h1
          by_cases hj : j = i
          · subst hj; rw [wr_s]; simp
          · rw [wr_oi hj, hM']
            have e : j < i + 1 ↔ j < i := by omega
            simp [e]
        · rw [wr_oc h1, hM']; simp [h1, h2, h3]
  · intro ls M' h
    obtain ⟨rfl, hM'⟩ := h
    refine (ex_il2 dX7_copy_18 (ex_bipush (v := nI 6) dX7_copy_19 rfl (ex_icmp_geN (tgt := 66) dX7_copy_21 rfl (by omega) (by omega) (fun c21 => (ex_rv dX7_copy_66 rfl ?_)) (fun c21 => (absurd (Nat.le_refl 6) c21)))))
    subst hM'
    refine ⟨fun c hc => ?_, fun n x hn hx => ⟨?_, ?_, fun i hi => ?_⟩⟩
    · funext j
      simp only [show ¬ c = S + 1 by omega, show ¬ c = S + 2 by omega, show ¬ c = S + 3 by omega, false_and, if_false]
      rw [wr_oc (by omega), wr_oc (by omega)]
    · simp only [show ¬ S = S + 1 by omega, show ¬ S = S + 2 by omega, show ¬ S = S + 3 by omega, false_and, if_false]
      rw [wr_oi (by omega), wr_s]; exact hx.1
    · simp only [show ¬ S = S + 1 by omega, show ¬ S = S + 2 by omega, show ¬ S = S + 3 by omega, false_and, if_false]
      rw [wr_s]; exact hx.2.1
    · have h6 : i < 6 := by omega
      simp [h6]
      exact hx.2.2 i hi
theorem x_begin {sh : Sh} {Mr : MR} {S L : Nat} (hS : SA sh Mr S) (hL : LA sh Mr L) (hd : S + 4 ≤ L ∨ L + 10 ≤ S) (M : MM) : CtV mX7_begin [.ref S, .ref L] sh Mr M (fun M' => (∀ c, c < S ∨ S + 4 ≤ c → M' c = M c) ∧ M' S 0 = nI 0 ∧ M' S 4 = nI 0 ∧ ∀ i, i < 6 → M' (S + 1) i = nI 0 ∧ M' (S + 2) i = M (L + 2) i ∧ M' (S + 3) i = M (L + 3) i) := by
  refine ct_of (mi := mX7_begin) (ls := [some (.ref S), some (.ref L), none]) rfl rfl (Nat.le_of_ble_eq_true rfl) rfl ?_
  refine (ex_al0 dX7_begin_0 (ex_iconst (v := nI 0) dX7_begin_1 rfl (ex_putI dX7_begin_2 (fpX7_21 _) (sa_sh hS) (ex_al0 dX7_begin_5 (ex_iconst (v := nI 0) dX7_begin_6 rfl (ex_putI dX7_begin_7 (fpX7_25 _) (sa_sh hS) (ex_iconst (v := nI 0) dX7_begin_10 rfl (ex_is2 dX7_begin_11 (Nat.le_of_ble_eq_true rfl) rfl ?_))))))))
  refine ex_for (I := fun i ls M' => ls = [some (.ref S), some (.ref L), some (.int (nI i))] ∧ M' = fun c j => if c = S + 1 ∧ j < i then nI 0 else if c = S + 2 ∧ j < i then M (L + 2) j else if c = S + 3 ∧ j < i then M (L + 3) j else wr (wr M S 0 (nI 0)) S 4 (nI 0) c j) 6 ?_ ?_ 0 _ _ (Nat.zero_le _) ⟨rfl, by funext c j; simp⟩
  · intro i ls M' hi h ih
    obtain ⟨rfl, hM'⟩ := h
    have e2 : M' (L + 2) i = M (L + 2) i := by rw [hM']; simp only [show ¬ L + 2 = S + 1 by omega, show ¬ L + 2 = S + 2 by omega, show ¬ L + 2 = S + 3 by omega, false_and, if_false]; rw [wr_oc (by omega), wr_oc (by omega)]
    have e3 : M' (L + 3) i = M (L + 3) i := by rw [hM']; simp only [show ¬ L + 3 = S + 1 by omega, show ¬ L + 3 = S + 2 by omega, show ¬ L + 3 = S + 3 by omega, false_and, if_false]; rw [wr_oc (by omega), wr_oc (by omega)]
    refine (ex_il2 dX7_begin_12 (ex_bipush (v := nI 6) dX7_begin_13 rfl (ex_icmp_geN (tgt := 55) dX7_begin_15 rfl (by omega) (by omega) (fun c15 => (absurd c15 (by omega))) (fun c15 => (ex_al0 dX7_begin_18 (ex_getR dX7_begin_19 flX7_9 (sa_sh hS) (sa_r1 hS) (ex_il2 dX7_begin_22 (ex_iconst (v := nI 0) dX7_begin_23 rfl (ex_istN dX7_begin_24 (sa_a1 hS) (by omega) (by omega) (ex_al0 dX7_begin_25 (ex_getR dX7_begin_26 flX7_15 (sa_sh hS) (sa_r2 hS) (ex_il2 dX7_begin_29 (ex_al1 dX7_begin_30 (ex_getR dX7_begin_31 flX7_28 (la_sh hL) (la_r2 hL) (ex_il2 dX7_begin_34 (ex_ildN dX7_begin_35 (la_a2 hL) (by omega) (by omega) (ex_top (y := (M (L + 2) i)) (by rw [wr_oc (by omega)]; exact e2) (ex_istN dX7_begin_36 (sa_a2 hS) (by omega) (by omega) (ex_al0 dX7_begin_37 (ex_getR dX7_begin_38 flX7_18 (sa_sh hS) (sa_r3 hS) (ex_il2 dX7_begin_41 (ex_al1 dX7_begin_42 (ex_getR dX7_begin_43 flX7_31 (la_sh hL) (la_r3 hL) (ex_il2 dX7_begin_46 (ex_ildN dX7_begin_47 (la_a3 hL) (by omega) (by omega) (ex_top (y := (M (L + 3) i)) (by rw [wr_oc (by omega), wr_oc (by omega)]; exact e3) (ex_istN dX7_begin_48 (sa_a3 hS) (by omega) (by omega) (ex_inc2 dX7_begin_49 (Nat.le_of_ble_eq_true rfl) rfl (inc1 _) (ex_goto (tgt := 12) dX7_begin_52 rfl ?_)))))))))))))))))))))))))))))
    refine ih _ _ ⟨rfl, ?_⟩
    funext c j
    by_cases h3 : c = S + 3
    · subst h3
      by_cases hj : j = i
      · subst hj; rw [wr_s]; simp
      · rw [wr_oi hj, wr_oc (by omega), wr_oc (by omega), hM']
        have e : j < i + 1 ↔ j < i := by omega
        simp [e]
    · rw [wr_oc h3]
      by_cases h2 : c = S + 2
      · subst h2
        by_cases hj : j = i
        · subst hj; rw [wr_s]; simp
        · rw [wr_oi hj, wr_oc (by omega), hM']
          have e : j < i + 1 ↔ j < i := by omega
          simp [e]
      · rw [wr_oc h2]
        by_cases h1 : c = S + 1
        · subst h1
          by_cases hj : j = i
          · subst hj; rw [wr_s]; simp
          · rw [wr_oi hj, hM']
            have e : j < i + 1 ↔ j < i := by omega
            simp [e]
        · rw [wr_oc h1, hM']; simp [h1, h2, h3]
  · intro ls M' h
    obtain ⟨rfl, hM'⟩ := h
    refine (ex_il2 dX7_begin_12 (ex_bipush (v := nI 6) dX7_begin_13 rfl (ex_icmp_geN (tgt := 55) dX7_begin_15 rfl (by omega) (by omega) (fun c15 => (ex_rv dX7_begin_55 rfl ?_)) (fun c15 => (absurd (Nat.le_refl 6) c15)))))
    subst hM'
    refine ⟨fun c hc => ?_, ?_, ?_, fun i hi => ?_⟩
    · funext j
      simp only [show ¬ c = S + 1 by omega, show ¬ c = S + 2 by omega, show ¬ c = S + 3 by omega, false_and, if_false]
      rw [wr_oc (by omega), wr_oc (by omega)]
    · simp only [show ¬ S = S + 1 by omega, show ¬ S = S + 2 by omega, show ¬ S = S + 3 by omega, false_and, if_false]
      rw [wr_oi (by omega), wr_s]
    · simp only [show ¬ S = S + 1 by omega, show ¬ S = S + 2 by omega, show ¬ S = S + 3 by omega, false_and, if_false]
      rw [wr_s]
    · simp [hi]
theorem x_goBy {sh : Sh} {Mr : MR} {S L : Nat} (hS : SA sh Mr S) (hL : LA sh Mr L) (hd : S + 4 ≤ L ∨ L + 10 ≤ S) (M : MM) (o : To) (ho : LdX M L o) (x : St) (hx : stX M S o.1.1 x) (k : Nat) : CtV mX7_goBy [.ref S, .ref L, .int (nI k)] sh Mr M (fun M' => (∀ c, c ≠ S → c ≠ S + 1 → M' c = M c) ∧ stX M' S o.1.1 (goBy o x k)) := by
  have h6 := ho.1.2.1
  refine ct_of (mi := mX7_goBy) (ls := [some (.ref S), some (.ref L), some (.int (nI k)), none]) rfl rfl (Nat.le_of_ble_eq_true rfl) rfl ?_
  refine (ex_al0 dX7_goBy_0 (ex_dupR dX7_goBy_1 (ex_getI dX7_goBy_2 flX7_21 (sa_sh hS) (ex_top (hx.1) (ex_il2 dX7_goBy_5 (ex_iaddN dX7_goBy_6 (ex_putI dX7_goBy_7 (fpX7_21 _) (sa_sh hS) (ex_iconst (v := nI 0) dX7_goBy_10 rfl (ex_is3 dX7_goBy_11 (Nat.le_of_ble_eq_true rfl) rfl ?_)))))))))
  refine ex_for (I := fun i ls M' => ls = [some (.ref S), some (.ref L), some (.int (nI k)), some (.int (nI i))] ∧ M' = fun c j => if c = S + 1 ∧ j < i then x.2.2.1 j + nI k * o.1.2.2.1 j else wr M S 0 (nI (x.1 + k)) c j) o.1.1 ?_ ?_ 0 _ _ (Nat.zero_le _) ⟨rfl, by funext c j; simp⟩
  · intro i ls M' hi h ih
    obtain ⟨rfl, hM'⟩ := h
    have e0 : M' L 0 = nI o.1.1 := by rw [hM']; simp only [show ¬ L = S + 1 by omega, false_and, if_false]; rw [wr_oc (by omega)]; exact ho.1.1
    have e1 : M' (S + 1) i = x.2.2.1 i := by rw [hM']; simp; rw [wr_oc (by omega)]; exact (hx.2.2 i hi).1
    have e2 : M' (L + 4) i = o.1.2.2.1 i := by rw [hM']; simp only [show ¬ L + 4 = S + 1 by omega, false_and, if_false]; rw [wr_oc (by omega)]; exact (ho.1.2.2 i hi).2.2.1
    refine (ex_il3 dX7_goBy_12 (ex_al1 dX7_goBy_13 (ex_getI dX7_goBy_14 flX7_32 (la_sh hL) (ex_top (e0) (ex_icmp_geN (tgt := 43) dX7_goBy_17 rfl (by omega) (by omega) (fun c17 => (absurd c17 (by omega))) (fun c17 => (ex_al0 dX7_goBy_20 (ex_getR dX7_goBy_21 flX7_9 (sa_sh hS) (sa_r1 hS) (ex_il3 dX7_goBy_24 (ex_dup2 dX7_goBy_25 (ex_ildN dX7_goBy_26 (sa_a1 hS) (by omega) (by omega) (ex_top (e1) (ex_al1 dX7_goBy_27 (ex_getR dX7_goBy_28 flX7_35 (la_sh hL) (la_r4 hL) (ex_il3 dX7_goBy_31 (ex_ildN dX7_goBy_32 (la_a4 hL) (by omega) (by omega) (ex_top (e2) (ex_il2 dX7_goBy_33 (ex_imul dX7_goBy_34 (ex_top (y := (nI k * o.1.2.2.1 i)) (Int32.mul_comm _ _) (ex_iadd dX7_goBy_35 (ex_istN dX7_goBy_36 (sa_a1 hS) (by omega) (by omega) (ex_inc3 dX7_goBy_37 (Nat.le_of_ble_eq_true rfl) rfl (inc1 _) (ex_goto (tgt := 12) dX7_goBy_40 rfl ?_))))))))))))))))))))))))
    refine ih _ _ ⟨rfl, ?_⟩
    funext c j
    by_cases h1 : c = S + 1
    · subst h1
      by_cases hj : j = i
      · subst hj; rw [wr_s]; simp
      · rw [wr_oi hj, hM']
        have e : j < i + 1 ↔ j < i := by omega
        simp [e]
    · rw [wr_oc h1, hM']; simp [h1]
  · intro ls M' h
    obtain ⟨rfl, hM'⟩ := h
    have e0 : M' L 0 = nI o.1.1 := by rw [hM']; simp only [show ¬ L = S + 1 by omega, false_and, if_false]; rw [wr_oc (by omega)]; exact ho.1.1
    refine (ex_il3 dX7_goBy_12 (ex_al1 dX7_goBy_13 (ex_getI dX7_goBy_14 flX7_32 (la_sh hL) (ex_top (e0) (ex_icmp_geN (tgt := 43) dX7_goBy_17 rfl (by omega) (by omega) (fun c17 => (ex_rv dX7_goBy_43 rfl ?_)) (fun c17 => (absurd (Nat.le_refl _) c17)))))))
    subst hM'
    refine ⟨fun c h1 h2 => ?_, ?_, ?_, fun i hi => ?_⟩
    · funext j; simp only [h2, false_and, if_false]; rw [wr_oc h1]
    · simp only [show ¬ S = S + 1 by omega, false_and, if_false]; rw [wr_s]; rfl
    · simp only [show ¬ S = S + 1 by omega, false_and, if_false]; rw [wr_oi (by omega)]; exact hx.2.1
    · refine ⟨by simp [hi, goBy], ?_, ?_⟩
      · simp only [show ¬ S + 2 = S + 1 by omega, false_and, if_false]; rw [wr_oc (by omega)]; exact (hx.2.2 i hi).2.1
      · simp only [show ¬ S + 3 = S + 1 by omega, false_and, if_false]; rw [wr_oc (by omega)]; exact (hx.2.2 i hi).2.2
theorem bset_s {p : Nat → Bool} {n : Nat} (h : p n = false) : bset p n = bset p (n + 1) := by
  rw [← bset_f h, or_0]
theorem x_paying {sh : Sh} {Mr : MR} {S L : Nat} (hS : SA sh Mr S) (hL : LA sh Mr L) (M : MM) (o : To) (ho : LdX M L o) (x : St) (hx : stX M S o.1.1 x) : CtP mX7_paying [.ref S, .ref L] sh Mr M (bset (lit o x) o.1.1) := by
  have h6 := ho.1.2.1
  refine ct_of (mi := mX7_paying) (ls := [some (.ref S), some (.ref L), none, none]) rfl rfl (Nat.le_of_ble_eq_true rfl) rfl ?_
  refine (ex_iconst (v := nI 0) dX7_paying_0 rfl (ex_is2 dX7_paying_1 (Nat.le_of_ble_eq_true rfl) rfl (ex_iconst (v := nI 0) dX7_paying_2 rfl (ex_is3 dX7_paying_3 (Nat.le_of_ble_eq_true rfl) rfl ?_))))
  refine ex_for (I := fun i ls M' => ls = [some (.ref S), some (.ref L), some (.int (bset (lit o x) i)), some (.int (nI i))] ∧ M' = M) o.1.1 ?_ ?_ 0 _ _ (Nat.zero_le _) ⟨rfl, rfl⟩
  · intro i ls M' hi h ih
    obtain ⟨rfl, rfl⟩ := h
    refine (ex_il3 dX7_paying_4 (ex_al1 dX7_paying_5 (ex_getI dX7_paying_6 flX7_32 (la_sh hL) (ex_top (ho.1.1) (ex_icmp_geN (tgt := 37) dX7_paying_9 rfl (by omega) (by omega) (fun c9 => (absurd c9 (by omega))) (fun c9 => (ex_al0 dX7_paying_12 (ex_getR dX7_paying_13 flX7_9 (sa_sh hS) (sa_r1 hS) (ex_il3 dX7_paying_16 (ex_ildN dX7_paying_17 (sa_a1 hS) (by omega) (by omega) (ex_top ((hx.2.2 i hi).1) (ex_al1 dX7_paying_18 (ex_getI dX7_paying_19 flX7_38 (la_sh hL) (ex_top (ho.2.2.2) (ex_icmp_gt (tgt := 31) dX7_paying_22 rfl (fun c22 => ?_) (fun c22 => ?_))))))))))))))))
    · refine (ex_inc3 dX7_paying_31 (Nat.le_of_ble_eq_true rfl) rfl (inc1 _) (ex_goto (tgt := 4) dX7_paying_34 rfl ?_))
      refine ih _ _ ⟨?_, rfl⟩
      rw [bset_s (p := lit o x) (n := i) (by unfold lit pay; exact decide_eq_false (i_nle c22))]
    · refine (ex_il2 dX7_paying_25 (ex_iconst (v := nI 1) dX7_paying_26 rfl (ex_il3 dX7_paying_27 (ex_ishl dX7_paying_28 (ex_ior dX7_paying_29 (ex_top (bset_t (by unfold lit pay; exact decide_eq_true (i_nlt c22))) (ex_is2 dX7_paying_30 (Nat.le_of_ble_eq_true rfl) rfl (ex_inc3 dX7_paying_31 (Nat.le_of_ble_eq_true rfl) rfl (inc1 _) (ex_goto (tgt := 4) dX7_paying_34 rfl ?_)))))))))
      exact ih _ _ ⟨rfl, rfl⟩
  · intro ls M' h
    obtain ⟨rfl, rfl⟩ := h
    refine (ex_il3 dX7_paying_4 (ex_al1 dX7_paying_5 (ex_getI dX7_paying_6 flX7_32 (la_sh hL) (ex_top (ho.1.1) (ex_icmp_geN (tgt := 37) dX7_paying_9 rfl (by omega) (by omega) (fun c9 => (ex_il2 dX7_paying_37 (ex_ri dX7_paying_38 rfl rfl (⟨rfl, rfl⟩)))) (fun c9 => (absurd (Nat.le_refl _) c9)))))))
