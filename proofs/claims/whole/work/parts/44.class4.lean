/-! the class: the text, and what it tells -/
def TxX (M : MM) (t : Tx) : Prop := M 1 1 = nI t.1 ∧ t.1 ≤ 200 ∧ ∀ k, k < t.1 → M 2 k = t.2 k
theorem TxX.of {M M' : MM} {t : Tx} (h : TxX M t) (h1 : M' 1 = M 1) (h2 : M' 2 = M 2) : TxX M' t := by
  unfold TxX
  rw [h1, h2]
  exact h
theorem x_wi (j a b : Nat) (hj : j < 2 ^ 31) (ha : a < 2 ^ 31) (hb : b < 2 ^ 31) (sh : Sh) (Mr : MR) (M : MM) : CtP mX8_within [.int (nI j), .int (nI a), .int (nI b)] sh Mr M (bI (decide (a ≤ j) && decide (j ≤ b))) := by
  have h := x_within (nI j) (nI a) (nI b) sh Mr M
  rw [inB_nI hj ha hb] at h
  exact h
theorem x_wl (v : Int32) (n : Nat) (sh : Sh) (Mr : MR) (M : MM) : CtP mX8_within [.int v, .int (nI 0), .int (nI n - nI 1)] sh Mr M (bI (inB v (nI 0) (nI n - nI 1))) := x_within _ _ _ _ _ _
theorem x_append {sh : Sh} {Mr : MR} {L D : Nat} (hG : GX sh Mr L D) (M : MM) (t : Tx) (ht : TxX M t) (x : Int32) : CtI mX2_append [.ref 1, .int x] sh Mr M (fun v M' => v = bI (!decide (t.1 = 200)) ∧ (∀ c, c ≠ 1 → c ≠ 2 → M' c = M c) ∧ TxX M' (if t.1 = 200 then t else (t.1 + 1, fun k => if k = t.1 then x else t.2 k))) := by
  have h200 := ht.2.1
  refine ct_of (mi := mX2_append) (ls := [some (.ref 1), some (.int x)]) rfl rfl (Nat.le_of_ble_eq_true rfl) rfl ?_
  refine (ex_al0 dX2_append_0 (ex_getI dX2_append_1 flX2_15 (gx1 hG) (ex_top (ht.1) (ex_sipush (v := nI 200) dX2_append_4 rfl (ex_icmp_ltN (tgt := 12) dX2_append_7 rfl (by omega) (by omega) (fun c7 => ?_) (fun c7 => ?_))))))
  · refine (ex_al0 dX2_append_12 (ex_getR dX2_append_13 flX2_9 (gx1 hG) (gr1_0 hG) (ex_al0 dX2_append_16 (ex_getI dX2_append_17 flX2_15 (gx1 hG) (ex_top (ht.1) (ex_il1 dX2_append_20 (ex_istN dX2_append_21 (gx2 hG) (by omega) (by omega) (ex_al0 dX2_append_22 (ex_dupR dX2_append_23 (ex_getI dX2_append_24 flX2_15 (gx1 hG) (ex_top (y := nI (t.1)) (by rw [wr_oc (by omega)]; exact ht.1) (ex_iconst (v := nI 1) dX2_append_27 rfl (ex_iaddN dX2_append_28 (ex_putI dX2_append_29 (fpX2_15 _) (gx1 hG) (ex_iconst (v := nI 1) dX2_append_32 rfl (ex_ri dX2_append_33 rfl rfl ?_))))))))))))))))
    refine ⟨bI_tt (by simp; omega), fun c h1 h2 => by rw [wr_oc h1, wr_oc h2], ?_⟩
    rw [if_neg (by omega)]
    refine ⟨wr_s, by show t.1 + 1 ≤ 200; omega, fun k hk => ?_⟩
    have hk : k < t.1 + 1 := hk
    rw [wr_oc (by omega)]
    by_cases e : k = t.1
    · subst e; rw [wr_s]; simp
    · rw [wr_oi e]; simp only [if_neg e]; exact ht.2.2 k (by omega)
  · refine (ex_iconst (v := nI 0) dX2_append_10 rfl (ex_ri dX2_append_11 rfl rfl ?_))
    refine ⟨bI_ff (by simp; omega), fun _ _ _ => rfl, ?_⟩
    rw [if_pos (by omega)]
    exact ht
theorem x_at {sh : Sh} {Mr : MR} {L D : Nat} (hG : GX sh Mr L D) (M : MM) (t : Tx) (ht : TxX M t) (k : Nat) (hk : k < 2 ^ 31) : CtP mX2_at [.ref 1, .int (nI k)] sh Mr M (ltr t k) := by
  have h200 := ht.2.1
  refine ct_of (mi := mX2_at) (ls := [some (.ref 1), some (.int (nI k))]) rfl rfl (Nat.le_of_ble_eq_true rfl) rfl ?_
  refine (ex_il1 dX2_at_0 (ex_iconst (v := nI 0) dX2_at_1 rfl (ex_al0 dX2_at_2 (ex_getI dX2_at_3 flX2_15 (gx1 hG) (ex_top (ht.1) (ex_iconst (v := nI 1) dX2_at_6 rfl (ex_isub dX2_at_7 (ex_SP3 dX2_at_8 lkX2_19 ⟨(Nat.le_of_ble_eq_true rfl), (Nat.le_of_ble_eq_true rfl)⟩ ⟨Nat.le_refl _, Nat.le_refl _⟩ (Nat.le_of_ble_eq_true rfl) (x_wl _ _ _ _ _) (ex_ifB_eq (tgt := 23) dX2_at_11 rfl (fun c11 => ?_) (fun c11 => ?_))))))))))
  · refine (ex_iconst (v := nI 0) dX2_at_23 rfl (ex_ri dX2_at_24 rfl rfl ?_))
    refine ⟨?_, rfl⟩
    rw [ltr, if_neg (fun h => inB_no (by omega) c11 k h rfl)]
    rfl
  · obtain ⟨j, hj, e⟩ := (inB_lt (by omega)).mp c11
    have e2 : k = j := by
      have := congrArg cN e
      rw [cN_nI hk, cN_nI (by omega)] at this
      exact this
    subst e2
    refine (ex_al0 dX2_at_14 (ex_getR dX2_at_15 flX2_9 (gx1 hG) (gr1_0 hG) (ex_il1 dX2_at_18 (ex_ildN dX2_at_19 (gx2 hG) (by omega) (by omega) (ex_top (ht.2.2 k hj) (ex_goto (tgt := 24) dX2_at_20 rfl (ex_ri dX2_at_24 rfl rfl ?_)))))))
    refine ⟨?_, rfl⟩
    rw [ltr, if_pos hj]
theorem x_isFigure {sh : Sh} {Mr : MR} {L D : Nat} (hG : GX sh Mr L D) (M : MM) (t : Tx) (ht : TxX M t) (k : Nat) (hk : k < 2 ^ 31) : CtP mX2_isFigure [.ref 1, .int (nI k)] sh Mr M (bI (fig t k)) := by
  refine ct_of (mi := mX2_isFigure) (ls := [some (.ref 1), some (.int (nI k))]) rfl rfl (Nat.le_of_ble_eq_true rfl) rfl ?_
  refine (ex_al0 dX2_isFigure_0 (ex_il1 dX2_isFigure_1 (ex_VP1 dX2_isFigure_2 lkX2_23 (gx1 hG) ⟨_, _, rfl⟩ ⟨(Nat.le_of_ble_eq_true rfl), (Nat.le_of_ble_eq_true rfl)⟩ ⟨Nat.le_refl _, Nat.le_refl _⟩ (Nat.le_of_ble_eq_true rfl) (x_at hG M t ht k hk) (ex_bipush (v := nI 48) dX2_isFigure_5 rfl (ex_bipush (v := nI 57) dX2_isFigure_7 rfl (ex_SP3 dX2_isFigure_9 lkX2_19 ⟨(Nat.le_of_ble_eq_true rfl), (Nat.le_of_ble_eq_true rfl)⟩ ⟨Nat.le_refl _, Nat.le_refl _⟩ (Nat.le_of_ble_eq_true rfl) (x_within _ _ _ _ _ _) (ex_rb dX2_isFigure_12 rfl (⟨rfl, rfl⟩))))))))
theorem x_numberAt {sh : Sh} {Mr : MR} {L D : Nat} (hG : GX sh Mr L D) (M : MM) (t : Tx) (ht : TxX M t) (k n : Nat) (hk : k < 2 ^ 30) (h0 : fig t k = true) (h1 : n = 1 ∨ (n = 2 ∧ fig t (k + 1) = true)) : CtP mX5_numberAt [.ref 1, .int (nI k), .int (nI n)] sh Mr M (nI (if n = 1 then dgt t k else 10 * dgt t k + dgt t (k + 1))) := by
  have d0 := fig_val h0
  have l0 : ltr t k = nI (48 + dgt t k) := by rw [ltr, if_pos d0.1]; exact d0.2.1
  refine ct_of (mi := mX5_numberAt) (ls := [some (.ref 1), some (.int (nI k)), some (.int (nI n)), none, none]) rfl rfl (Nat.le_of_ble_eq_true rfl) rfl ?_
  refine (ex_iconst (v := nI 0) dX5_numberAt_0 rfl (ex_is3 dX5_numberAt_1 (Nat.le_of_ble_eq_true rfl) rfl (ex_iconst (v := nI 0) dX5_numberAt_2 rfl (ex_is4 dX5_numberAt_3 (Nat.le_of_ble_eq_true rfl) rfl ?_))))
  refine (ex_il4 dX5_numberAt_5 (ex_il2 dX5_numberAt_7 (ex_icmp_geN (tgt := 34) dX5_numberAt_8 rfl (by omega) (by omega) (fun c8 => (absurd c8 (by omega))) (fun c8 => (ex_il3 dX5_numberAt_11 (ex_bipush (v := nI 10) dX5_numberAt_12 rfl (ex_imulN dX5_numberAt_14 (ex_al0 dX5_numberAt_15 (ex_il1 dX5_numberAt_16 (ex_il4 dX5_numberAt_17 (ex_iaddN dX5_numberAt_19 (ex_VP1 dX5_numberAt_20 lkX5_30 (gx1 hG) ⟨_, _, rfl⟩ ⟨(Nat.le_of_ble_eq_true rfl), (Nat.le_of_ble_eq_true rfl)⟩ ⟨Nat.le_refl _, Nat.le_refl _⟩ (Nat.le_of_ble_eq_true rfl) (x_at hG M t ht _ (by omega)) (ex_top (y := nI ((48 + dgt t k))) (l0) (ex_iaddN dX5_numberAt_23 (ex_bipush (v := nI 48) dX5_numberAt_24 rfl (ex_isubN dX5_numberAt_26 (by omega) (ex_top (y := nI ((dgt t k))) (by congr 1; omega) (ex_is3 dX5_numberAt_27 (Nat.le_of_ble_eq_true rfl) rfl (ex_inc4 dX5_numberAt_28 (Nat.le_of_ble_eq_true rfl) rfl (inc1 _) (ex_goto (tgt := 5) dX5_numberAt_31 rfl ?_))))))))))))))))))))
  rcases h1 with rfl | ⟨rfl, h1⟩
  · refine (ex_il4 dX5_numberAt_5 (ex_il2 dX5_numberAt_7 (ex_icmp_geN (tgt := 34) dX5_numberAt_8 rfl (by omega) (by omega) (fun c8 => (ex_il3 dX5_numberAt_34 (ex_ri dX5_numberAt_35 rfl rfl (⟨rfl, rfl⟩)))) (fun c8 => (absurd (by omega) c8)))))
  · have d1 := fig_val h1
    have l1 : ltr t (k + (0 + 1)) = nI (48 + dgt t (k + 1)) := by rw [Nat.zero_add, ltr, if_pos d1.1]; exact d1.2.1
    refine (ex_il4 dX5_numberAt_5 (ex_il2 dX5_numberAt_7 (ex_icmp_geN (tgt := 34) dX5_numberAt_8 rfl (by omega) (by omega) (fun c8 => (absurd c8 (by omega))) (fun c8 => (ex_il3 dX5_numberAt_11 (ex_bipush (v := nI 10) dX5_numberAt_12 rfl (ex_imulN dX5_numberAt_14 (ex_al0 dX5_numberAt_15 (ex_il1 dX5_numberAt_16 (ex_il4 dX5_numberAt_17 (ex_iaddN dX5_numberAt_19 (ex_VP1 dX5_numberAt_20 lkX5_30 (gx1 hG) ⟨_, _, rfl⟩ ⟨(Nat.le_of_ble_eq_true rfl), (Nat.le_of_ble_eq_true rfl)⟩ ⟨Nat.le_refl _, Nat.le_refl _⟩ (Nat.le_of_ble_eq_true rfl) (x_at hG M t ht _ (by omega)) (ex_top (y := nI ((48 + dgt t (k + 1)))) (l1) (ex_iaddN dX5_numberAt_23 (ex_bipush (v := nI 48) dX5_numberAt_24 rfl (ex_isubN dX5_numberAt_26 (by omega) (ex_top (y := nI ((10 * dgt t k + dgt t (k + 1)))) (by congr 1; omega) (ex_is3 dX5_numberAt_27 (Nat.le_of_ble_eq_true rfl) rfl (ex_inc4 dX5_numberAt_28 (Nat.le_of_ble_eq_true rfl) rfl (inc1 _) (ex_goto (tgt := 5) dX5_numberAt_31 rfl ?_))))))))))))))))))))
    refine (ex_il4 dX5_numberAt_5 (ex_il2 dX5_numberAt_7 (ex_icmp_geN (tgt := 34) dX5_numberAt_8 rfl (by omega) (by omega) (fun c8 => (ex_il3 dX5_numberAt_34 (ex_ri dX5_numberAt_35 rfl rfl (⟨rfl, rfl⟩)))) (fun c8 => (absurd (by omega) c8)))))
theorem x_everybody {sh : Sh} {Mr : MR} {L : Nat} (hL : LA sh Mr L) (M : MM) (o : To) (ho : LdX M L o) : CtP mX1_everybody [.ref L] sh Mr M (nI (2 ^ o.1.1 - 1)) := by
  have h6 := ho.1.2.1
  have hp : 1 ≤ 2 ^ o.1.1 := Nat.one_le_two_pow
  refine ct_of (mi := mX1_everybody) (ls := [some (.ref L)]) rfl rfl (Nat.le_of_ble_eq_true rfl) rfl ?_
  refine (ex_iconst (v := nI 1) dX1_everybody_0 rfl (ex_al0 dX1_everybody_1 (ex_getI dX1_everybody_2 flX1_39 (la_sh hL) (ex_top (ho.1.1) (ex_ishl dX1_everybody_5 (ex_top (y := nI ((2 ^ o.1.1))) (shl12 _ (by omega)) (ex_iconst (v := nI 1) dX1_everybody_6 rfl (ex_isubN dX1_everybody_7 (by omega) (ex_ri dX1_everybody_8 rfl rfl (⟨rfl, rfl⟩))))))))))
theorem x_allShips {sh : Sh} {Mr : MR} {L : Nat} (hL : LA sh Mr L) (M : MM) (o : To) (ho : LdX M L o) : CtP mX1_allShips [.ref L] sh Mr M (nI (2 ^ o.2.1.1 - 1)) := by
  have h6 := ho.2.1.2.1
  have hp : 1 ≤ 2 ^ o.2.1.1 := Nat.one_le_two_pow
  refine ct_of (mi := mX1_allShips) (ls := [some (.ref L)]) rfl rfl (Nat.le_of_ble_eq_true rfl) rfl ?_
  refine (ex_iconst (v := nI 1) dX1_allShips_0 rfl (ex_al0 dX1_allShips_1 (ex_getI dX1_allShips_2 flX1_43 (la_sh hL) (ex_top (ho.2.1.1) (ex_ishl dX1_allShips_5 (ex_top (y := nI ((2 ^ o.2.1.1))) (shl12 _ (by omega)) (ex_iconst (v := nI 1) dX1_allShips_6 rfl (ex_isubN dX1_allShips_7 (by omega) (ex_ri dX1_allShips_8 rfl rfl (⟨rfl, rfl⟩))))))))))
theorem x_isPlace (a n : Nat) (ha : a < 2 ^ 31) (hn : n < 2 ^ 31) (sh : Sh) (Mr : MR) (M : MM) : CtP mX1_isPlace [.int (nI a), .int (nI n)] sh Mr M (bI (decide (a ≤ 23) && (decide (1 ≤ n) && decide (n ≤ 12)))) := by
  refine ct_of (mi := mX1_isPlace) (ls := [some (.int (nI a)), some (.int (nI n))]) rfl rfl (Nat.le_of_ble_eq_true rfl) rfl ?_
  refine (ex_il0 dX1_isPlace_0 (ex_iconst (v := nI 0) dX1_isPlace_1 rfl (ex_bipush (v := nI 23) dX1_isPlace_2 rfl (ex_SP3 dX1_isPlace_4 lkX1_65 ⟨(Nat.le_of_ble_eq_true rfl), (Nat.le_of_ble_eq_true rfl)⟩ ⟨Nat.le_refl _, Nat.le_refl _⟩ (Nat.le_of_ble_eq_true rfl) (x_wi _ _ _ ha (by omega) (by omega) _ _ _) (ex_ifB_eq (tgt := 24) dX1_isPlace_7 rfl (fun c7 => ?_) (fun c7 => ?_))))))
  · refine (ex_iconst (v := nI 0) dX1_isPlace_24 rfl (ex_ri dX1_isPlace_25 rfl rfl (⟨bI_ff (by simp at c7; simp; omega), rfl⟩)))
  · refine (ex_il1 dX1_isPlace_10 (ex_iconst (v := nI 1) dX1_isPlace_11 rfl (ex_bipush (v := nI 12) dX1_isPlace_12 rfl (ex_SP3 dX1_isPlace_14 lkX1_65 ⟨(Nat.le_of_ble_eq_true rfl), (Nat.le_of_ble_eq_true rfl)⟩ ⟨Nat.le_refl _, Nat.le_refl _⟩ (Nat.le_of_ble_eq_true rfl) (x_wi _ _ _ hn (by omega) (by omega) _ _ _) (ex_ifB_eq (tgt := 24) dX1_isPlace_17 rfl (fun c17 => ?_) (fun c17 => ?_))))))
    · refine (ex_iconst (v := nI 0) dX1_isPlace_24 rfl (ex_ri dX1_isPlace_25 rfl rfl (⟨bI_ff (by rw [c17]; simp), rfl⟩)))
    · refine (ex_iconst (v := nI 1) dX1_isPlace_20 rfl (ex_goto (tgt := 25) dX1_isPlace_21 rfl (ex_ri dX1_isPlace_25 rfl rfl (⟨bI_tt (by rw [c17]; simp at c7; simp; omega), rfl⟩))))
theorem x_partOf (a : Nat) (ha : a ≤ 1000) (w : Int32) (sh : Sh) (Mr : MR) (M : MM) : CtP mX8_partOfTenths [.int (nI a), .int w] sh Mr M (low a w) := by
  have key : ∀ d, d ≤ 10 → 1 ≤ d → (a % d = 0 ∧ 10 % d = 0 ↔ Nat.gcd a 10 % d = 0) := by
    intro d h1 h2
    rw [← Nat.dvd_iff_mod_eq_zero, ← Nat.dvd_iff_mod_eq_zero, ← Nat.dvd_iff_mod_eq_zero, Nat.dvd_gcd_iff]
  have hg : Nat.gcd a 10 ≤ 10 := Nat.gcd_le_right a (by decide)
  have hgp : 1 ≤ Nat.gcd a 10 := Nat.gcd_pos_of_pos_right a (by decide)
  generalize hgg : Nat.gcd a 10 = G at key hg hgp
  refine ct_of (mi := mX8_partOfTenths) (ls := [some (.int (nI a)), some (.int w), none, none]) rfl rfl (Nat.le_of_ble_eq_true rfl) rfl ?_
  refine (ex_iconst (v := nI 1) dX8_partOfTenths_0 rfl (ex_is2 dX8_partOfTenths_1 (Nat.le_of_ble_eq_true rfl) rfl (ex_iconst (v := nI 2) dX8_partOfTenths_2 rfl (ex_is3 dX8_partOfTenths_3 (Nat.le_of_ble_eq_true rfl) rfl ?_))))
  refine ex_for (I := fun j ls M' => ∃ q, ls = [some (.int (nI a)), some (.int w), some (.int (nI q)), some (.int (nI (j + 2)))] ∧ 1 ≤ q ∧ q ≤ 10 ∧ G % q = 0 ∧ (∀ d, 1 ≤ d → d < j + 2 → G % d = 0 → d ≤ q) ∧ M' = M) 9 ?_ ?_ 0 _ _ (Nat.zero_le _) ⟨1, rfl, by omega, by omega, Nat.mod_one _, fun d h1 h2 _ => by omega, rfl⟩
  · intro j ls M' hj h ih
    obtain ⟨q, rfl, h1, h2, h3, h4, rfl⟩ := h
    have kj := key (j + 2) (by omega) (by omega)
    refine (ex_il3 dX8_partOfTenths_4 (ex_bipush (v := nI 10) dX8_partOfTenths_5 rfl (ex_icmp_gtN (tgt := 31) dX8_partOfTenths_7 rfl (by omega) (by omega) (fun c7 => (absurd c7 (by omega))) (fun c7 => (ex_il0 dX8_partOfTenths_10 (ex_il3 dX8_partOfTenths_11 (ex_iremN dX8_partOfTenths_12 ⟨by omega, by omega, by omega⟩ (ex_if_neN (tgt := 25) dX8_partOfTenths_13 rfl (Nat.lt_of_le_of_lt (Nat.mod_le _ _) (by omega)) (fun c13 => ?_) (fun c13 => ?_)))))))))
    · refine (ex_inc3 dX8_partOfTenths_25 (Nat.le_of_ble_eq_true rfl) rfl (inc1 _) (ex_goto (tgt := 4) dX8_partOfTenths_28 rfl ?_))
      refine ih _ _ ⟨q, rfl, h1, h2, h3, fun d e1 e2 e3 => ?_, rfl⟩
      by_cases e : d = j + 2
      · subst e; exact absurd (kj.mpr e3).1 c13
      · exact h4 d e1 (by omega) e3
    · refine (ex_bipush (v := nI 10) dX8_partOfTenths_16 rfl (ex_il3 dX8_partOfTenths_18 (ex_iremN dX8_partOfTenths_19 ⟨by omega, by omega, by omega⟩ (ex_if_neN (tgt := 25) dX8_partOfTenths_20 rfl (Nat.lt_of_le_of_lt (Nat.mod_le _ _) (by omega)) (fun c20 => ?_) (fun c20 => ?_)))))
      · refine (ex_inc3 dX8_partOfTenths_25 (Nat.le_of_ble_eq_true rfl) rfl (inc1 _) (ex_goto (tgt := 4) dX8_partOfTenths_28 rfl ?_))
        refine ih _ _ ⟨q, rfl, h1, h2, h3, fun d e1 e2 e3 => ?_, rfl⟩
        by_cases e : d = j + 2
        · subst e; exact absurd (kj.mpr e3).2 c20
        · exact h4 d e1 (by omega) e3
      · refine (ex_il3 dX8_partOfTenths_23 (ex_is2 dX8_partOfTenths_24 (Nat.le_of_ble_eq_true rfl) rfl (ex_inc3 dX8_partOfTenths_25 (Nat.le_of_ble_eq_true rfl) rfl (inc1 _) (ex_goto (tgt := 4) dX8_partOfTenths_28 rfl ?_))))
        exact ih _ _ ⟨j + 2, rfl, by omega, by omega, kj.mp ⟨c13, c20⟩, fun d e1 e2 e3 => by omega, rfl⟩
  · intro ls M' h
    obtain ⟨q, rfl, h1, h2, h3, h4, rfl⟩ := h
    have hq : q = G := by
      have a1 := h4 G hgp (by omega) (Nat.mod_self G)
      have a2 := Nat.le_of_dvd (by omega) (Nat.dvd_of_mod_eq_zero h3)
      omega
    subst hq
    have hlow : low a w = if w = nI 0 then nI (a / q) else nI (10 / q) := by unfold low; rw [hgg]
    refine (ex_il3 dX8_partOfTenths_4 (ex_bipush (v := nI 10) dX8_partOfTenths_5 rfl (ex_icmp_gtN (tgt := 31) dX8_partOfTenths_7 rfl (by omega) (by omega) (fun c7 => (ex_il1 dX8_partOfTenths_31 (ex_if_ne (tgt := 41) dX8_partOfTenths_32 rfl (fun c32 => ?_) (fun c32 => ?_)))) (fun c7 => (absurd (by omega) c7)))))
    · refine (ex_bipush (v := nI 10) dX8_partOfTenths_41 rfl (ex_il2 dX8_partOfTenths_43 (ex_idivN dX8_partOfTenths_44 ⟨by omega, by omega, by omega⟩ (ex_ri dX8_partOfTenths_45 rfl rfl (⟨by rw [hlow, if_neg (by rw [nI_0]; exact c32)], rfl⟩)))))
    · refine (ex_il0 dX8_partOfTenths_35 (ex_il2 dX8_partOfTenths_36 (ex_idivN dX8_partOfTenths_37 ⟨by omega, by omega, by omega⟩ (ex_goto (tgt := 45) dX8_partOfTenths_38 rfl (ex_ri dX8_partOfTenths_45 rfl rfl (⟨by rw [hlow, if_pos (by rw [nI_0]; exact c32)], rfl⟩))))))
