/-! ===== lN n to 2^64: shifts, and, or, masks, one bit ===== -/
theorem wb_tb (n : Nat) : (lN n).toBitVec = BitVec.ofNat 64 n := rfl
theorem wb_inj {a b : Int64} (h : a.toBitVec = b.toBitVec) : a = b := Int64.toBitVec_inj.mp h
theorem wb_tn {n : Nat} (h : n < 2 ^ 64) : (lN n).toBitVec.toNat = n := by rw [wb_tb, BitVec.toNat_ofNat, Nat.mod_eq_of_lt h]
theorem wb_of (x : Int64) : ∃ n, n < 2 ^ 64 ∧ x = lN n := ⟨x.toBitVec.toNat, x.toBitVec.isLt, wb_inj (by rw [wb_tb]; simp)⟩
theorem wb_of32 (x : Int32) : ∃ n, n < 2 ^ 32 ∧ x = nI n := ⟨x.toBitVec.toNat, x.toBitVec.isLt, Int32.toBitVec_inj.mp (by show _ = BitVec.ofNat 32 _; simp)⟩
theorem wb_c : ∀ k, k < 64 → ((nI k).toInt64 &&& 63) = lN k := by decide +kernel
theorem wb_cu : ∀ k, k < 64 → ((nI k).toInt64.toUInt64 &&& Int64.toUInt64 63) = UInt64.ofNat k := by decide +kernel
theorem wb_sm : ∀ k, k < 64 → (BitVec.ofNat 64 k).smod 64 = BitVec.ofNat 64 k := by decide +kernel
theorem wb_pw {a b : Nat} (h : a ≤ b) : 2 ^ b = 2 ^ a * 2 ^ (b - a) := by rw [← Nat.pow_add]; congr 1; omega
theorem wb_lt2 {a b : Nat} (h : a < b) : 2 ^ a < 2 ^ b := Nat.pow_lt_pow_right (by decide) h
theorem wb_mod (n : Nat) : lN n = lN (n % 2 ^ 64) := wb_inj (by rw [wb_tb, wb_tb]; apply BitVec.eq_of_toNat_eq; rw [BitVec.toNat_ofNat, BitVec.toNat_ofNat, Nat.mod_mod])
theorem wb_shr {n k : Nat} (hn : n < 2 ^ 64) (hk : k < 64) : ((lN n).toUInt64 >>> ((nI k).toInt64.toUInt64 &&& Int64.toUInt64 63)).toInt64 = lN (n / 2 ^ k) := by
  rw [wb_cu k hk]
  apply wb_inj
  apply BitVec.eq_of_toNat_eq
  show ((lN n).toUInt64 >>> UInt64.ofNat k).toNat = (BitVec.ofNat 64 _).toNat
  have h1 : (UInt64.ofNat k).toNat = k := by
    show (BitVec.ofNat 64 k).toNat = k
    rw [BitVec.toNat_ofNat, Nat.mod_eq_of_lt (by omega)]
  have h2 : (lN n).toUInt64.toNat = n := wb_tn hn
  rw [UInt64.toNat_shiftRight, h1, h2, Nat.mod_eq_of_lt hk, Nat.shiftRight_eq_div_pow, BitVec.toNat_ofNat, Nat.mod_eq_of_lt (Nat.lt_of_le_of_lt (Nat.div_le_self _ _) hn)]
theorem wb_shl (n : Nat) {k : Nat} (hk : k < 64) : lN n <<< ((nI k).toInt64 &&& 63) = lN (n * 2 ^ k) := by
  rw [wb_c k hk]
  apply wb_inj
  rw [Int64.toBitVec_shiftLeft, wb_tb, wb_tb, wb_tb, wb_sm k hk]
  apply BitVec.eq_of_toNat_eq
  rw [BitVec.shiftLeft_eq', BitVec.toNat_shiftLeft, BitVec.toNat_ofNat, BitVec.toNat_ofNat, BitVec.toNat_ofNat, Nat.mod_eq_of_lt (show k < 2 ^ 64 by omega), Nat.shiftLeft_eq, Nat.mul_mod, Nat.mod_mod, ← Nat.mul_mod]
theorem wb_and {a b : Nat} (ha : a < 2 ^ 64) (hb : b < 2 ^ 64) : lN a &&& lN b = lN (a &&& b) := by
  apply wb_inj
  rw [Int64.toBitVec_and, wb_tb, wb_tb, wb_tb]
  apply BitVec.eq_of_toNat_eq
  rw [BitVec.toNat_and, BitVec.toNat_ofNat, BitVec.toNat_ofNat, BitVec.toNat_ofNat, Nat.mod_eq_of_lt ha, Nat.mod_eq_of_lt hb, Nat.mod_eq_of_lt (Nat.and_lt_two_pow _ hb)]
theorem wb_or {a b : Nat} (ha : a < 2 ^ 64) (hb : b < 2 ^ 64) : lN a ||| lN b = lN (a ||| b) := by
  apply wb_inj
  rw [Int64.toBitVec_or, wb_tb, wb_tb, wb_tb]
  apply BitVec.eq_of_toNat_eq
  rw [BitVec.toNat_or, BitVec.toNat_ofNat, BitVec.toNat_ofNat, BitVec.toNat_ofNat, Nat.mod_eq_of_lt ha, Nat.mod_eq_of_lt hb, Nat.mod_eq_of_lt (Nat.or_lt_two_pow ha hb)]
theorem wb_mask {n k : Nat} (hn : n < 2 ^ 64) (hk : k < 64) : lN n &&& lN (2 ^ k - 1) = lN (n % 2 ^ k) := by
  rw [wb_and hn (by have := wb_lt2 hk; omega), Nat.and_two_pow_sub_one_eq_mod]
theorem wb_a1 {n : Nat} (hn : n < 2 ^ 64) : lN n &&& 1 = lN (n % 2) := wb_mask (k := 1) hn (by decide)
theorem wb_bit {n k : Nat} (hn : n < 2 ^ 64) (hk : k < 64) : ((lN n).toUInt64 >>> ((nI k).toInt64.toUInt64 &&& Int64.toUInt64 63)).toInt64 &&& 1 = lN (n / 2 ^ k % 2) := by
  rw [wb_shr hn hk, wb_a1 (Nat.lt_of_le_of_lt (Nat.div_le_self _ _) hn)]
theorem wb_xor {q k : Nat} (hk : k < 63) (h : 2 ^ k ≤ q) (h2 : q < 2 ^ (k + 1)) : lN q ^^^ lN (2 ^ k) = lN (q - 2 ^ k) := by
  obtain ⟨r, rfl⟩ : ∃ r, q = 2 ^ k + r := ⟨q - 2 ^ k, by omega⟩
  have hr : r < 2 ^ k := by rw [Nat.pow_succ] at h2; omega
  have hx : (2 ^ k + r) ^^^ 2 ^ k = r := by
    apply Nat.eq_of_testBit_eq
    intro i
    rw [Nat.testBit_xor, Nat.testBit_two_pow]
    rcases Nat.lt_trichotomy i k with h | h | h
    · rw [Nat.testBit_two_pow_add_gt h]
      simp [show ¬ k = i by omega]
    · subst h
      rw [Nat.testBit_two_pow_add_eq]
      simp
    · have a1 : 2 ^ (k + 1) ≤ 2 ^ i := Nat.pow_le_pow_right (by decide) h
      rw [Nat.testBit_lt_two_pow (show 2 ^ k + r < 2 ^ i by omega), Nat.testBit_lt_two_pow (show r < 2 ^ i by omega)]
      simp [show ¬ k = i by omega]
  have b1 := wb_lt2 (show k + 1 < 64 by omega)
  have b2 := wb_lt2 (show k < 64 by omega)
  apply wb_inj
  rw [Int64.toBitVec_xor, wb_tb, wb_tb, wb_tb]
  apply BitVec.eq_of_toNat_eq
  rw [BitVec.toNat_xor, BitVec.toNat_ofNat, BitVec.toNat_ofNat, BitVec.toNat_ofNat, Nat.mod_eq_of_lt (by omega : 2 ^ k + r < 2 ^ 64), Nat.mod_eq_of_lt b2, hx, Nat.add_sub_cancel_left, Nat.mod_eq_of_lt (by omega)]
theorem fa_and (a b : Nat) : nI a &&& nI b = nI (a &&& b) := by
  apply Int32.toBitVec_inj.1
  show BitVec.ofNat 32 a &&& BitVec.ofNat 32 b = BitVec.ofNat 32 (a &&& b)
  apply BitVec.eq_of_getLsbD_eq
  intro i hi
  simp [hi]
theorem shl12 : ∀ n, n ≤ 12 → nI 1 <<< (nI n &&& 31) = nI (2 ^ n) := by decide +kernel
theorem x_stripesFrom (a p : Nat) (ha : a < 24) (hp : p < 4096) (sh : Sh) (Mr : MR) (M : MM) : CtI mX8_stripesFrom [.int (nI a), .int (nI p)] sh Mr M (fun v M' => M' = M ∧ ∀ s, s < 32 → bt v s = (decide (s < 24) && p.testBit (bh a s))) := by
  have h24 : 2 ^ a ≤ 2 ^ 23 := Nat.pow_le_pow_right (by decide) (by omega)
  have hu : p * 2 ^ a < 2 ^ 36 := Nat.lt_of_lt_of_le (Nat.mul_lt_mul_of_lt_of_le hp h24 (by decide)) (by decide)
  have hu2 : p * 2 ^ a / 2 ^ 24 < 2 ^ 64 := Nat.lt_of_le_of_lt (Nat.div_le_self _ _) (by omega)
  have hor : p * 2 ^ a ||| p * 2 ^ a / 2 ^ 24 < 2 ^ 64 := Nat.or_lt_two_pow (by omega) hu2
  refine ct_of (mi := mX8_stripesFrom) (ls := [some (.int (nI a)), some (.int (nI p)), none, none]) rfl rfl (Nat.le_of_ble_eq_true rfl) rfl ?_
  refine (ex_il1 dX8_stripesFrom_0 (ex_i2l dX8_stripesFrom_1 (ex_topL (y := lN (p)) (nI_l (by omega)) (ex_il0 dX8_stripesFrom_2 (ex_lshl dX8_stripesFrom_3 (ex_topL (y := lN ((p * 2 ^ a))) (wb_shl _ (by omega)) (ex_ls2 dX8_stripesFrom_4 (Nat.le_of_ble_eq_true rfl) rfl (ex_ll2 dX8_stripesFrom_5 (ex_ll2 dX8_stripesFrom_6 (ex_bipush (v := nI 24) dX8_stripesFrom_7 rfl (ex_lushr dX8_stripesFrom_9 (ex_topL (y := lN ((p * 2 ^ a / 2 ^ 24))) (wb_shr (by omega) (by omega)) (ex_lor dX8_stripesFrom_10 (ex_topL (y := lN ((p * 2 ^ a ||| p * 2 ^ a / 2 ^ 24))) (wb_or (by omega) hu2) (ex_ldc2 dX8_stripesFrom_11 kcX8_281 (ex_topL (y := lN ((2 ^ 24 - 1))) (rfl) (ex_land dX8_stripesFrom_14 (ex_topL (y := lN (((p * 2 ^ a ||| p * 2 ^ a / 2 ^ 24) % 2 ^ 24))) (wb_mask hor (by omega)) (ex_l2i dX8_stripesFrom_15 (ex_top (y := nI (((p * 2 ^ a ||| p * 2 ^ a / 2 ^ 24) % 2 ^ 24))) (lN_i _) (ex_ri dX8_stripesFrom_16 rfl rfl ?_)))))))))))))))))))))
  refine ⟨rfl, fun s hs => ?_⟩
  rw [bt_nI _ s hs, Nat.testBit_mod_two_pow, Nat.testBit_or, Nat.testBit_div_two_pow]
  rw [← Nat.shiftLeft_eq, Nat.testBit_shiftLeft, Nat.testBit_shiftLeft]
  by_cases h : s < 24
  · simp only [h, decide_true, Bool.true_and]
    have hbig : ∀ k, 12 ≤ k → p.testBit k = false := fun k hk => Nat.testBit_lt_two_pow (Nat.lt_of_lt_of_le hp (show 2 ^ 12 ≤ 2 ^ k from Nat.pow_le_pow_right (by decide) hk))
    unfold bh
    by_cases h2 : a ≤ s
    · rw [hbig (s + 24 - a) (by omega), show (s + 24 - a) % 24 = s - a by omega]
      simp [h2]
    · rw [show (s + 24 - a) % 24 = s + 24 - a by omega]
      simp [h2, show a ≤ s + 24 by omega]
  · simp [h]
/-- the class's leases at L tell o -/
def LdX (M : MM) (L : Nat) (o : To) : Prop := (M L 0 = nI o.1.1 ∧ o.1.1 ≤ 6 ∧ ∀ i, i < o.1.1 → M (L + 1) i = nI (o.1.2.1 i) ∧ o.1.2.1 i < 4 ∧ M (L + 4) i = o.1.2.2.1 i ∧ M (L + 5) i = nI (o.1.2.2.2 i) ∧ o.1.2.2.2 i < 4) ∧ (M L 6 = nI o.2.1.1 ∧ o.2.1.1 ≤ 5 ∧ ∀ k, k < o.2.1.1 → M (L + 6) k = nI (o.2.1.2.1 k) ∧ M (L + 7) k = nI (o.2.1.2.2 k) ∧ ∀ s, s < 32 → bt (M (L + 8) k) s = (decide (s < 24) && seb (o.2.1.2.1 k) (o.2.1.2.2 k) s)) ∧ (∀ f, f < 4 → M (L + 9) f = nI (o.2.2.1 f)) ∧ M L 11 = o.2.2.2
theorem LdX.of {M M' : MM} {L : Nat} {o : To} (h : LdX M L o) (hc : ∀ c, L ≤ c → c ≤ L + 9 → M' c = M c) : LdX M' L o := by
  unfold LdX
  rw [hc L (by omega) (by omega), hc (L + 1) (by omega) (by omega), hc (L + 4) (by omega) (by omega), hc (L + 5) (by omega) (by omega), hc (L + 6) (by omega) (by omega), hc (L + 7) (by omega) (by omega), hc (L + 8) (by omega) (by omega), hc (L + 9) (by omega) (by omega)]
  exact h
theorem x_paysMost {sh : Sh} {Mr : MR} {L : Nat} (hL : LA sh Mr L) (M : MM) (o : To) (ho : LdX M L o) (i : Nat) (hi : i < o.1.1) : CtP mX1_paysMostOfHisColour [.ref L, .int (nI i)] sh Mr M (bI (proud o.1 i)) := by
  obtain ⟨⟨h0, h6, hr⟩, -⟩ := ho
  obtain ⟨a1, a2, a3, a4, a5⟩ := hr i hi
  refine ct_of (mi := mX1_paysMostOfHisColour) (ls := [some (.ref L), some (.int (nI i)), none]) rfl rfl (Nat.le_of_ble_eq_true rfl) rfl ?_
  refine (ex_iconst (v := nI 0) dX1_paysMostOfHisColour_0 rfl (ex_is2 dX1_paysMostOfHisColour_1 (Nat.le_of_ble_eq_true rfl) rfl ?_))
  refine ex_for (I := fun j ls M' => ls = [some (.ref L), some (.int (nI i)), some (.int (nI j))] ∧ (∀ k, k < j → (decide (k = i) || (decide (¬ o.1.2.1 k = o.1.2.1 i) || decide (o.1.2.2.1 k ≤ o.1.2.2.1 i))) = true) ∧ M' = M) o.1.1 ?_ ?_ 0 _ _ (Nat.zero_le _) ⟨rfl, fun k hk => by omega, rfl⟩
  · intro j ls M' hj h ih
    obtain ⟨rfl, hall, rfl⟩ := h
    obtain ⟨b1, b2, b3, b4, b5⟩ := hr j hj
    have next : (decide (j = i) || (decide (¬ o.1.2.1 j = o.1.2.1 i) || decide (o.1.2.2.1 j ≤ o.1.2.2.1 i))) = true → ∀ k, k < j + 1 → (decide (k = i) || (decide (¬ o.1.2.1 k = o.1.2.1 i) || decide (o.1.2.2.1 k ≤ o.1.2.2.1 i))) = true := fun h k hk => by
      by_cases e : k = j
      · subst e; exact h
      · exact hall k (by omega)
    refine (ex_il2 dX1_paysMostOfHisColour_2 (ex_al0 dX1_paysMostOfHisColour_3 (ex_getI dX1_paysMostOfHisColour_4 flX1_39 (la_sh hL) (ex_top (h0) (ex_icmp_geN (tgt := 48) dX1_paysMostOfHisColour_7 rfl (by omega) (by omega) (fun c7 => (absurd c7 (by omega))) (fun c7 => (ex_al0 dX1_paysMostOfHisColour_10 (ex_getR dX1_paysMostOfHisColour_11 flX1_9 (la_sh hL) (la_r1 hL) (ex_il2 dX1_paysMostOfHisColour_14 (ex_ildN dX1_paysMostOfHisColour_15 (la_a1 hL) (by omega) (by omega) (ex_top (b1) (ex_al0 dX1_paysMostOfHisColour_16 (ex_getR dX1_paysMostOfHisColour_17 flX1_9 (la_sh hL) (la_r1 hL) (ex_il1 dX1_paysMostOfHisColour_20 (ex_ildN dX1_paysMostOfHisColour_21 (la_a1 hL) (by omega) (by omega) (ex_top (a1) (ex_icmp_neN (tgt := 42) dX1_paysMostOfHisColour_22 rfl (by omega) (by omega) (fun c22 => ?_) (fun c22 => ?_))))))))))))))))))
    · refine (ex_inc2 dX1_paysMostOfHisColour_42 (Nat.le_of_ble_eq_true rfl) rfl (inc1 _) (ex_goto (tgt := 2) dX1_paysMostOfHisColour_45 rfl ?_))
      exact ih _ _ ⟨rfl, next (by simp [c22]), rfl⟩
    · refine (ex_al0 dX1_paysMostOfHisColour_25 (ex_getR dX1_paysMostOfHisColour_26 flX1_21 (la_sh hL) (la_r4 hL) (ex_il2 dX1_paysMostOfHisColour_29 (ex_ildN dX1_paysMostOfHisColour_30 (la_a4 hL) (by omega) (by omega) (ex_top (b3) (ex_al0 dX1_paysMostOfHisColour_31 (ex_getR dX1_paysMostOfHisColour_32 flX1_21 (la_sh hL) (la_r4 hL) (ex_il1 dX1_paysMostOfHisColour_35 (ex_ildN dX1_paysMostOfHisColour_36 (la_a4 hL) (by omega) (by omega) (ex_top (a3) (ex_icmp_le (tgt := 42) dX1_paysMostOfHisColour_37 rfl (fun c37 => ?_) (fun c37 => ?_))))))))))))
      · refine (ex_inc2 dX1_paysMostOfHisColour_42 (Nat.le_of_ble_eq_true rfl) rfl (inc1 _) (ex_goto (tgt := 2) dX1_paysMostOfHisColour_45 rfl ?_))
        exact ih _ _ ⟨rfl, next (by simp [c37]), rfl⟩
      · refine (ex_iconst (v := nI 0) dX1_paysMostOfHisColour_40 rfl (ex_ri dX1_paysMostOfHisColour_41 rfl rfl ?_))
        refine ⟨bI_ff ?_, rfl⟩
        unfold proud
        cases hq : allb (fun j => decide (j = i) || (decide (¬ o.1.2.1 j = o.1.2.1 i) || decide (o.1.2.2.1 j ≤ o.1.2.2.1 i))) o.1.1
        · rfl
        · exfalso
          have h2 := allb_iff.mp hq j hj
          simp only [Bool.or_eq_true, decide_eq_true_eq] at h2
          rcases h2 with h2 | h2 | h2
          · subst h2; exact c37 (Int32.le_refl _)
          · exact h2 c22
          · exact c37 h2
  · intro ls M' h
    obtain ⟨rfl, hall, rfl⟩ := h
    refine (ex_il2 dX1_paysMostOfHisColour_2 (ex_al0 dX1_paysMostOfHisColour_3 (ex_getI dX1_paysMostOfHisColour_4 flX1_39 (la_sh hL) (ex_top (h0) (ex_icmp_geN (tgt := 48) dX1_paysMostOfHisColour_7 rfl (by omega) (by omega) (fun c7 => (ex_iconst (v := nI 1) dX1_paysMostOfHisColour_48 rfl (ex_ri dX1_paysMostOfHisColour_49 rfl rfl (⟨bI_tt (allb_iff.mpr hall), rfl⟩)))) (fun c7 => (absurd (Nat.le_refl _) c7)))))))
theorem tb555 : ∀ b, b < 24 → Nat.testBit 1365 b = (decide (b < 12) && decide (b % 2 = 0)) := by decide +kernel
theorem tbAAA : ∀ b, b < 24 → Nat.testBit 2730 b = (decide (b < 12) && !decide (b % 2 = 0)) := by decide +kernel
def QSh (M : MM) (t : Td) (i a n night : Nat) : Int32 → MM → Prop := fun v M' => M' = M ∧ ∀ s, s < 32 → bt v s = (decide (s < 24) && (decide (bh a s < n) && kOK t night i (bh a s)))
theorem x_shineOf {sh : Sh} {Mr : MR} {L : Nat} (hL : LA sh Mr L) (M : MM) (o : To) (ho : LdX M L o) (i a n night : Nat) (hi : i < o.1.1) (ha : a < 24) (hn : n ≤ 12) (hng : night < 2 ^ 30) : CtI mX1_shineOf [.ref L, .int (nI i), .int (nI a), .int (nI n), .int (nI night)] sh Mr M (QSh M o.1 i a n night) := by
  have h6 := ho.1.2.1
  obtain ⟨a1, a2, a3, a4, a5⟩ := ho.1.2.2 i hi
  have h4096 : 2 ^ n ≤ 4096 := Nat.pow_le_pow_right (n := 2) (by decide) hn
  have hpos : 1 ≤ 2 ^ n := Nat.one_le_two_pow
  have htb : ∀ b, (2 ^ n - 1).testBit b = decide (b < n) := fun b => Nat.testBit_two_pow_sub_one n b
  have h0 : ∀ s, bt (nI 0) s = false := fun s => by rw [nI_0]; exact b_0 s
  refine ct_of (mi := mX1_shineOf) (ls := [some (.ref L), some (.int (nI i)), some (.int (nI a)), some (.int (nI n)), some (.int (nI night)), none, none]) rfl rfl (Nat.le_of_ble_eq_true rfl) rfl ?_
  have J : EI mX1_shineOf sh Mr (QSh M o.1 i a n night) 12 [some (.ref L), some (.int (nI i)), some (.int (nI a)), some (.int (nI n)), some (.int (nI night)), none, none] [.int (bI (decide (night % 2 = 0)))] M := by
    have hk : o.1.2.2.2 i = 0 ∨ o.1.2.2.2 i = 1 ∨ o.1.2.2.2 i = 2 ∨ o.1.2.2.2 i = 3 := by omega
    refine (ex_is5 dX1_shineOf_12 (Nat.le_of_ble_eq_true rfl) rfl (ex_iconst (v := nI 1) dX1_shineOf_14 rfl (ex_il3 dX1_shineOf_15 (ex_ishl dX1_shineOf_16 (ex_top (y := nI ((2 ^ n))) (shl12 _ hn) (ex_iconst (v := nI 1) dX1_shineOf_17 rfl (ex_isubN dX1_shineOf_18 (by omega) (ex_is6 dX1_shineOf_19 (Nat.le_of_ble_eq_true rfl) rfl (ex_al0 dX1_shineOf_21 (ex_getR dX1_shineOf_22 flX1_24 (la_sh hL) (la_r5 hL) (ex_il1 dX1_shineOf_25 (ex_ildN dX1_shineOf_26 (la_a5 hL) (by omega) (by omega) (ex_top (a4) ?_)))))))))))))
    rcases hk with hk | hk | hk | hk
    · rw [hk]
      refine ex_tableOut (tgt := 109) dX1_shineOf_27 (by decide) rfl ?_
      refine (ex_il2 dX1_shineOf_109 (ex_il6 dX1_shineOf_110 (ex_SI2 dX1_shineOf_112 lkX1_71 ⟨(Nat.le_of_ble_eq_true rfl), (Nat.le_of_ble_eq_true rfl)⟩ ⟨Nat.le_refl _, Nat.le_refl _⟩ (Nat.le_of_ble_eq_true rfl) (x_stripesFrom a _ ha (by omega) _ _ _) (fun v112 M112 h112 => (ex_ri dX1_shineOf_115 rfl rfl ?_)))))
      refine ⟨h112.1, fun s hs => ?_⟩
      rw [h112.2 s hs, htb]
      simp [kOK, hk]
    · rw [hk]
      refine ex_tableIn (tgt := 52) dX1_shineOf_27 (by decide) (by decide) rfl rfl ?_
      refine (ex_il5 dX1_shineOf_52 (ex_ifB_eq (tgt := 66) dX1_shineOf_54 rfl (fun c54 => ?_) (fun c54 => ?_)))
      · refine (ex_iconst (v := nI 0) dX1_shineOf_66 rfl (ex_ri dX1_shineOf_67 rfl rfl (⟨rfl, fun s hs => by rw [h0]; simp [kOK, hk]; intro _ _; simpa using c54⟩)))
      · refine (ex_il2 dX1_shineOf_57 (ex_il6 dX1_shineOf_58 (ex_SI2 dX1_shineOf_60 lkX1_71 ⟨(Nat.le_of_ble_eq_true rfl), (Nat.le_of_ble_eq_true rfl)⟩ ⟨Nat.le_refl _, Nat.le_refl _⟩ (Nat.le_of_ble_eq_true rfl) (x_stripesFrom a _ ha (by omega) _ _ _) (fun v60 M60 h60 => (ex_goto (tgt := 67) dX1_shineOf_63 rfl (ex_ri dX1_shineOf_67 rfl rfl ?_))))))
        refine ⟨h60.1, fun s hs => ?_⟩
        rw [h60.2 s hs, htb]
        simp only [kOK, hk, c54, Bool.and_true]
    · rw [hk]
      refine ex_tableIn (tgt := 68) dX1_shineOf_27 (by decide) (by decide) rfl rfl ?_
      refine (ex_il2 dX1_shineOf_68 (ex_il6 dX1_shineOf_69 (ex_il5 dX1_shineOf_71 (ex_ifB_eq (tgt := 82) dX1_shineOf_73 rfl (fun c73 => ?_) (fun c73 => ?_)))))
      · refine (ex_sipush (v := nI 2730) dX1_shineOf_82 rfl (ex_iand dX1_shineOf_85 (ex_top (y := nI (((2 ^ n - 1) &&& 2730))) (fa_and _ _) (ex_SI2 dX1_shineOf_86 lkX1_71 ⟨(Nat.le_of_ble_eq_true rfl), (Nat.le_of_ble_eq_true rfl)⟩ ⟨Nat.le_refl _, Nat.le_refl _⟩ (Nat.le_of_ble_eq_true rfl) (x_stripesFrom a _ ha (Nat.lt_of_le_of_lt Nat.and_le_left (by omega)) _ _ _) (fun v86 M86 h86 => (ex_ri dX1_shineOf_89 rfl rfl ?_))))))
        refine ⟨h86.1, fun s hs => ?_⟩
        rw [h86.2 s hs, Nat.testBit_and, htb, tbAAA _ (bh_lt a s)]
        have hb := bh_lt a s
        have c73' : ¬ night % 2 = 0 := by simpa using c73
        simp only [kOK, hk, c73']
        by_cases e1 : bh a s < n
        · have e2 : bh a s < 12 := by omega
          rcases Nat.mod_two_eq_zero_or_one (bh a s) with e3 | e3 <;> simp [e1, e2, e3]
        · simp [e1]
      · refine (ex_sipush (v := nI 1365) dX1_shineOf_76 rfl (ex_goto (tgt := 85) dX1_shineOf_79 rfl (ex_iand dX1_shineOf_85 (ex_top (y := nI (((2 ^ n - 1) &&& 1365))) (fa_and _ _) (ex_SI2 dX1_shineOf_86 lkX1_71 ⟨(Nat.le_of_ble_eq_true rfl), (Nat.le_of_ble_eq_true rfl)⟩ ⟨Nat.le_refl _, Nat.le_refl _⟩ (Nat.le_of_ble_eq_true rfl) (x_stripesFrom a _ ha (Nat.lt_of_le_of_lt Nat.and_le_left (by omega)) _ _ _) (fun v86 M86 h86 => (ex_ri dX1_shineOf_89 rfl rfl ?_)))))))
        refine ⟨h86.1, fun s hs => ?_⟩
        rw [h86.2 s hs, Nat.testBit_and, htb, tb555 _ (bh_lt a s)]
        have hb := bh_lt a s
        have c73' : night % 2 = 0 := by simpa using c73
        simp only [kOK, hk, c73']
        by_cases e1 : bh a s < n
        · have e2 : bh a s < 12 := by omega
          simp [e1, e2]
        · simp [e1]
    · rw [hk]
      refine ex_tableIn (tgt := 90) dX1_shineOf_27 (by decide) (by decide) rfl rfl ?_
      refine (ex_al0 dX1_shineOf_90 (ex_il1 dX1_shineOf_91 (ex_VP1 dX1_shineOf_92 lkX1_75 (la_sh hL) ⟨_, _, rfl⟩ ⟨(Nat.le_of_ble_eq_true rfl), (Nat.le_of_ble_eq_true rfl)⟩ ⟨Nat.le_refl _, Nat.le_refl _⟩ (Nat.le_of_ble_eq_true rfl) (x_paysMost hL M o ho i hi) (ex_ifB_eq (tgt := 107) dX1_shineOf_95 rfl (fun c95 => ?_) (fun c95 => ?_)))))
      · refine (ex_iconst (v := nI 0) dX1_shineOf_107 rfl (ex_ri dX1_shineOf_108 rfl rfl (⟨rfl, fun s hs => by rw [h0]; simp [kOK, hk, c95]⟩)))
      · refine (ex_il2 dX1_shineOf_98 (ex_il6 dX1_shineOf_99 (ex_SI2 dX1_shineOf_101 lkX1_71 ⟨(Nat.le_of_ble_eq_true rfl), (Nat.le_of_ble_eq_true rfl)⟩ ⟨Nat.le_refl _, Nat.le_refl _⟩ (Nat.le_of_ble_eq_true rfl) (x_stripesFrom a _ ha (by omega) _ _ _) (fun v101 M101 h101 => (ex_goto (tgt := 108) dX1_shineOf_104 rfl (ex_ri dX1_shineOf_108 rfl rfl ?_))))))
        refine ⟨h101.1, fun s hs => ?_⟩
        rw [h101.2 s hs, htb]
        simp [kOK, hk, c95]
  refine (ex_il4 dX1_shineOf_0 (ex_iconst (v := nI 2) dX1_shineOf_2 rfl (ex_iremN dX1_shineOf_3 ⟨by omega, by omega, by omega⟩ (ex_if_neN (tgt := 11) dX1_shineOf_4 rfl (by omega) (fun c4 => ?_) (fun c4 => ?_)))))
  · refine (ex_iconst (v := nI 0) dX1_shineOf_11 rfl ?_)
    exact ex_top (bI_ff (by simp [c4])) J
  · refine (ex_iconst (v := nI 1) dX1_shineOf_7 rfl (ex_goto (tgt := 12) dX1_shineOf_8 rfl ?_))
    exact ex_top (bI_tt (by simp [c4])) J
