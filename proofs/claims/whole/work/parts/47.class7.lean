/-! the class: counting bits, filling a row -/
theorem and_by (q r m s : Nat) (hr : r < 256) (hs : s < 256) : (256 * q + r) &&& (256 * m + s) = 256 * (q &&& m) + (r &&& s) := by
  have hrs : (r &&& s) < 2 ^ 8 := Nat.and_lt_two_pow _ hs
  apply Nat.eq_of_testBit_eq
  intro i
  show ((2 ^ 8 * q + r) &&& (2 ^ 8 * m + s)).testBit i = (2 ^ 8 * (q &&& m) + (r &&& s)).testBit i
  rw [Nat.testBit_and, Nat.testBit_two_pow_mul_add q hr, Nat.testBit_two_pow_mul_add m hs, Nat.testBit_two_pow_mul_add _ hrs]
  by_cases h : i < 8
  · simp [h]
  · simp [h]
theorem by_85 : ∀ e, e < 2 → ∀ r, r < 256 → ((128 * e + r / 2) &&& 85) = (r / 2 &&& 85) := by decide +kernel
theorem by_51 : ∀ e, e < 4 → ∀ r, r < 256 → ((64 * e + r / 4) &&& 51) = (r / 4 &&& 51) := by decide +kernel
theorem by_s1 (q r m : Nat) (hr : r < 256) : ((256 * q + r) / 2 &&& (256 * m + 85)) = 256 * (q / 2 &&& m) + (r / 2 &&& 85) := by
  rw [show (256 * q + r) / 2 = 256 * (q / 2) + (128 * (q % 2) + r / 2) by omega, and_by _ _ _ _ (by omega) (by omega), by_85 _ (by omega) _ hr]
theorem by_s2 (q r m : Nat) (hr : r < 256) : ((256 * q + r) / 4 &&& (256 * m + 51)) = 256 * (q / 4 &&& m) + (r / 4 &&& 51) := by
  rw [show (256 * q + r) / 4 = 256 * (q / 4) + (64 * (q % 4) + r / 4) by omega, and_by _ _ _ _ (by omega) (by omega), by_51 _ (by omega) _ hr]
def by1 (b : Nat) : Nat := b - (b / 2 &&& 85)
def by2 (b : Nat) : Nat := (by1 b &&& 51) + (by1 b / 4 &&& 51)
theorem by_f1 : ∀ b, b < 256 → (b / 2 &&& 85) ≤ b ∧ by1 b < 256 ∧ by2 b < 256 ∧ by2 b % 16 ≤ 4 ∧ by2 b / 16 ≤ 4 ∧ ((by2 b + by2 b / 16) &&& 15) = cnt b.testBit 8 ∧ cnt b.testBit 8 ≤ 8 := by decide +kernel
theorem by_15 : ∀ e, e < 5 → ∀ r, r < 85 → r % 16 ≤ 4 → ((r + r / 16 + 16 * e) &&& 15) = ((r + r / 16) &&& 15) := by decide +kernel
theorem by_s3 (q r m : Nat) (h1 : r % 16 ≤ 4) (h2 : r / 16 ≤ 4) (h3 : q % 16 ≤ 4) : ((256 * q + r) + (256 * q + r) / 16 &&& (256 * m + 15)) = 256 * (q + q / 16 &&& m) + (r + r / 16 &&& 15) := by
  rw [show (256 * q + r) + (256 * q + r) / 16 = 256 * (q + q / 16) + (r + r / 16 + 16 * (q % 16)) by omega, and_by _ _ _ _ (by omega) (by omega), by_15 _ (by omega) _ (by omega) h1]
def pc1 (n : Nat) : Nat := n - (n / 2 &&& 1431655765)
def pc2 (n : Nat) : Nat := (n &&& 858993459) + (n / 4 &&& 858993459)
def pc3 (n : Nat) : Nat := n + n / 16 &&& 252645135
theorem by_eq (b0 b1 b2 b3 : Nat) (h0 : b0 < 256) (h1 : b1 < 256) (h2 : b2 < 256) (h3 : b3 < 256) : pc1 (256 * (256 * (256 * b3 + b2) + b1) + b0) = 256 * (256 * (256 * by1 b3 + by1 b2) + by1 b1) + by1 b0 ∧ pc2 (256 * (256 * (256 * by1 b3 + by1 b2) + by1 b1) + by1 b0) = 256 * (256 * (256 * by2 b3 + by2 b2) + by2 b1) + by2 b0 ∧ pc3 (256 * (256 * (256 * by2 b3 + by2 b2) + by2 b1) + by2 b0) = 256 * (256 * (256 * cnt b3.testBit 8 + cnt b2.testBit 8) + cnt b1.testBit 8) + cnt b0.testBit 8 := by
  have f0 := by_f1 b0 h0
  have f1 := by_f1 b1 h1
  have f2 := by_f1 b2 h2
  have f3 := by_f1 b3 h3
  refine ⟨?_, ?_, ?_⟩
  · unfold pc1
    rw [show (1431655765 : Nat) = 256 * (256 * (256 * 85 + 85) + 85) + 85 by rfl, by_s1 _ _ _ h0, by_s1 _ _ _ h1, by_s1 _ _ _ h2]
    unfold by1
    omega
  · unfold pc2
    rw [show (858993459 : Nat) = 256 * (256 * (256 * 51 + 51) + 51) + 51 by rfl, by_s2 _ _ _ f0.2.1, by_s2 _ _ _ f1.2.1, by_s2 _ _ _ f2.2.1, and_by _ _ _ _ f0.2.1 (by omega), and_by _ _ _ _ f1.2.1 (by omega), and_by _ _ _ _ f2.2.1 (by omega)]
    unfold by2
    omega
  · unfold pc3
    rw [show (252645135 : Nat) = 256 * (256 * (256 * 15 + 15) + 15) + 15 by rfl, by_s3 _ _ _ f0.2.2.2.1 f0.2.2.2.2.1 (by omega), by_s3 _ _ _ f1.2.2.2.1 f1.2.2.2.2.1 (by omega), by_s3 _ _ _ f2.2.2.2.1 f2.2.2.2.2.1 (by omega), f0.2.2.2.2.2.1, f1.2.2.2.2.2.1, f2.2.2.2.2.2.1, f3.2.2.2.2.2.1]
theorem cnt_add (p : Nat → Bool) (a : Nat) : ∀ b, cnt p (a + b) = cnt p a + cnt (fun i => p (a + i)) b
  | 0 => rfl
  | b + 1 => by
    show cnt p (a + b) + (if p (a + b) then 1 else 0) = cnt p a + (cnt (fun i => p (a + i)) b + (if p (a + b) then 1 else 0))
    rw [cnt_add p a b, Nat.add_assoc]
theorem cnt_by (q r k : Nat) (hr : r < 256) : cnt (256 * q + r).testBit (8 + k) = cnt r.testBit 8 + cnt q.testBit k := by
  rw [cnt_add]
  congr 1
  · refine cnt_congr 8 (fun i hi => ?_)
    show (2 ^ 8 * q + r).testBit i = _
    rw [Nat.testBit_two_pow_mul_add q hr, if_pos hi]
  · refine cnt_congr k (fun i _ => ?_)
    show (2 ^ 8 * q + r).testBit (8 + i) = _
    rw [Nat.testBit_two_pow_mul_add q hr, if_neg (by omega), Nat.add_sub_cancel_left]
theorem pc_eq (n : Nat) (hn : n < 2 ^ 32) : pc1 n < 2 ^ 32 ∧ pc2 (pc1 n) < 2 ^ 32 ∧ ∀ i3, i3 = pc3 (pc2 (pc1 n)) → i3 < 2 ^ 31 ∧ (i3 + i3 / 256 + (i3 + i3 / 256) / 65536) % 64 = cnt n.testBit 32 := by
  have e : n = 256 * (256 * (256 * (n / 16777216) + n / 65536 % 256) + n / 256 % 256) + n % 256 := by omega
  have g0 : n % 256 < 256 := by omega
  have g1 : n / 256 % 256 < 256 := by omega
  have g2 : n / 65536 % 256 < 256 := by omega
  have g3 : n / 16777216 < 256 := by omega
  generalize n % 256 = b0 at e g0
  generalize n / 256 % 256 = b1 at e g1
  generalize n / 65536 % 256 = b2 at e g2
  generalize n / 16777216 = b3 at e g3
  subst e
  have f0 := by_f1 b0 g0
  have f1 := by_f1 b1 g1
  have f2 := by_f1 b2 g2
  have f3 := by_f1 b3 g3
  obtain ⟨e1, e2, e3⟩ := by_eq b0 b1 b2 b3 g0 g1 g2 g3
  rw [e1, e2, e3]
  refine ⟨by omega, by omega, fun i3 h => ?_⟩
  subst h
  rw [cnt_by _ b0 24 g0, cnt_by _ b1 16 g1, cnt_by _ b2 8 g2]
  have q0 := f0.2.2.2.2.2.2
  have q1 := f1.2.2.2.2.2.2
  have q2 := f2.2.2.2.2.2.2
  have q3 := f3.2.2.2.2.2.2
  generalize cnt b0.testBit 8 = c0 at q0
  generalize cnt b1.testBit 8 = c1 at q1
  generalize cnt b2.testBit 8 = c2 at q2
  generalize cnt b3.testBit 8 = c3 at q3
  refine ⟨by omega, ?_⟩
  rw [show (256 * (256 * (256 * c3 + c2) + c1) + c0) / 256 = 256 * (256 * c3 + c2) + c1 by omega, show (256 * (256 * (256 * c3 + c2) + c1) + c0 + (256 * (256 * c3 + c2) + c1)) / 65536 = 256 * c3 + (c2 + c3) by omega]
  omega
theorem us_n : ∀ (n k : Nat), n < 2 ^ 32 → k < 32 → ((nI n).toUInt32 >>> ((nI k).toUInt32 &&& Int32.toUInt32 31)).toInt32 = nI (n / 2 ^ k) := by
  intro n k hn hk
  refine b_ext (fun i hi => ?_)
  rw [b_ushr k hk, bt_nI _ i hi, Nat.testBit_div_two_pow]
  by_cases h : k + i < 32
  · rw [bt_nI _ _ h, Nat.add_comm]
  · rw [b_big (by omega), Nat.testBit_lt_two_pow (Nat.lt_of_lt_of_le hn (Nat.pow_le_pow_right (by decide) (by omega)))]
theorem x_bitCount (x : Int32) (sh : Sh) (Mr : MR) (M : MM) : CtP mJ6_bitCount_0f7a4 [.int x] sh Mr M (nI (cnt (bt x) 32)) := by
  obtain ⟨n, hn, rfl⟩ := wb_of32 x
  obtain ⟨h1, h2, h3⟩ := pc_eq n hn
  have hc : cnt (bt (nI n)) 32 = cnt n.testBit 32 := cnt_congr 32 (fun i hi => bt_nI n i hi)
  rw [hc]
  refine ct_of (mi := mJ6_bitCount_0f7a4) (ls := [some (.int (nI n))]) rfl rfl (Nat.le_of_ble_eq_true rfl) rfl ?_
  refine (ex_il0 dJ6_bitCount_0f7a4_0 (ex_il0 dJ6_bitCount_0f7a4_1 (ex_iconst (v := nI 1) dJ6_bitCount_0f7a4_2 rfl (ex_iushr dJ6_bitCount_0f7a4_3 (ex_top (y := nI ((n / 2))) (us_n n 1 hn (by omega)) (ex_ldcw dJ6_bitCount_0f7a4_4 kcJ6_265 (ex_top (y := nI (1431655765)) (rfl) (ex_iand dJ6_bitCount_0f7a4_7 (ex_top (fa_and _ _) (ex_isubN dJ6_bitCount_0f7a4_8 (Nat.le_trans Nat.and_le_left (Nat.div_le_self _ _)) (ex_is0 dJ6_bitCount_0f7a4_9 (Nat.le_of_ble_eq_true rfl) ?_)))))))))))
  rw [show n - (n / 2 &&& 1431655765) = pc1 n from rfl]
  generalize pc1 n = i1 at h1 h2 h3
  refine (ex_il0 dJ6_bitCount_0f7a4_10 (ex_ldcw dJ6_bitCount_0f7a4_11 kcJ6_266 (ex_top (y := nI (858993459)) (rfl) (ex_iand dJ6_bitCount_0f7a4_14 (ex_top (fa_and _ _) (ex_il0 dJ6_bitCount_0f7a4_15 (ex_iconst (v := nI 2) dJ6_bitCount_0f7a4_16 rfl (ex_iushr dJ6_bitCount_0f7a4_17 (ex_top (y := nI ((i1 / 4))) (us_n i1 2 h1 (by omega)) (ex_ldcw dJ6_bitCount_0f7a4_18 kcJ6_266 (ex_top (y := nI (858993459)) (rfl) (ex_iand dJ6_bitCount_0f7a4_21 (ex_top (fa_and _ _) (ex_iaddN dJ6_bitCount_0f7a4_22 (ex_is0 dJ6_bitCount_0f7a4_23 (Nat.le_of_ble_eq_true rfl) ?_)))))))))))))))
  rw [show (i1 &&& 858993459) + (i1 / 4 &&& 858993459) = pc2 i1 from rfl]
  generalize pc2 i1 = i2 at h2 h3
  refine (ex_il0 dJ6_bitCount_0f7a4_24 (ex_il0 dJ6_bitCount_0f7a4_25 (ex_iconst (v := nI 4) dJ6_bitCount_0f7a4_26 rfl (ex_iushr dJ6_bitCount_0f7a4_27 (ex_top (y := nI ((i2 / 16))) (us_n i2 4 h2 (by omega)) (ex_iaddN dJ6_bitCount_0f7a4_28 (ex_ldcw dJ6_bitCount_0f7a4_29 kcJ6_267 (ex_top (y := nI (252645135)) (rfl) (ex_iand dJ6_bitCount_0f7a4_32 (ex_top (fa_and _ _) (ex_is0 dJ6_bitCount_0f7a4_33 (Nat.le_of_ble_eq_true rfl) ?_)))))))))))
  obtain ⟨h4, h5⟩ := h3 _ rfl
  rw [show (i2 + i2 / 16 &&& 252645135) = pc3 i2 from rfl]
  generalize pc3 i2 = i3 at h4 h5
  have hb : i3 + i3 / 256 < 2 ^ 32 := by omega
  refine (ex_il0 dJ6_bitCount_0f7a4_34 (ex_il0 dJ6_bitCount_0f7a4_35 (ex_bipush (v := nI 8) dJ6_bitCount_0f7a4_36 rfl (ex_iushr dJ6_bitCount_0f7a4_38 (ex_top (y := nI ((i3 / 256))) (us_n i3 8 (by omega) (by omega)) (ex_iaddN dJ6_bitCount_0f7a4_39 (ex_is0 dJ6_bitCount_0f7a4_40 (Nat.le_of_ble_eq_true rfl) (ex_il0 dJ6_bitCount_0f7a4_41 (ex_il0 dJ6_bitCount_0f7a4_42 (ex_bipush (v := nI 16) dJ6_bitCount_0f7a4_43 rfl (ex_iushr dJ6_bitCount_0f7a4_45 (ex_top (y := nI (((i3 + i3 / 256) / 65536))) (us_n _ 16 hb (by omega)) (ex_iaddN dJ6_bitCount_0f7a4_46 (ex_is0 dJ6_bitCount_0f7a4_47 (Nat.le_of_ble_eq_true rfl) (ex_il0 dJ6_bitCount_0f7a4_48 (ex_bipush (v := nI 63) dJ6_bitCount_0f7a4_49 rfl (ex_iand dJ6_bitCount_0f7a4_51 (ex_top (y := nI (((i3 + i3 / 256 + (i3 + i3 / 256) / 65536) % 64))) ((fa_and _ 63).trans (congrArg nI (Nat.and_two_pow_sub_one_eq_mod _ 6))) (ex_ri dJ6_bitCount_0f7a4_52 rfl rfl (⟨by rw [h5], rfl⟩))))))))))))))))))))
theorem x_bc (x : Int32) (n : Nat) (hn : n ≤ 32) (h : ∀ i, n ≤ i → i < 32 → bt x i = false) (sh : Sh) (Mr : MR) (M : MM) : CtP mJ6_bitCount_0f7a4 [.int x] sh Mr M (nI (cnt (bt x) n)) := by
  have := x_bitCount x sh Mr M
  rw [cnt_more (a := n) 32 hn h] at this
  exact this
theorem x_bcs (p : Nat → Bool) (n : Nat) (hn : n ≤ 32) (sh : Sh) (Mr : MR) (M : MM) : CtP mJ6_bitCount_0f7a4 [.int (bset p n)] sh Mr M (nI (cnt p n)) := by
  have := x_bc (bset p n) n hn (fun i h1 h2 => by rw [bt_bset p n hn i h2]; simp [show ¬ i < n by omega]) sh Mr M
  rw [cnt_congr n (q := p) (fun i hi => by rw [bt_bset p n hn i (by omega)]; simp [hi])] at this
  exact this
theorem x_fill {sh : Sh} {Mr : MR} (a na : Nat) (ha : sh[a]? = some (0, na)) (h3 : na < 1000) (x : Int32) (M : MM) : CtV mJ7_fill_53178 [.ref a, .int x] sh Mr M (fun M' => (∀ c, c ≠ a → M' c = M c) ∧ ∀ i, i < na → M' a i = x) := by
  refine ct_of (mi := mJ7_fill_53178) (ls := [some (.ref a), some (.int x), none, none]) rfl rfl (Nat.le_of_ble_eq_true rfl) rfl ?_
  refine (ex_iconst (v := nI 0) dJ7_fill_53178_0 rfl (ex_is2 dJ7_fill_53178_1 (Nat.le_of_ble_eq_true rfl) rfl (ex_al0 dJ7_fill_53178_2 (ex_alen dJ7_fill_53178_3 ha (by decide) (ex_is3 dJ7_fill_53178_4 (Nat.le_of_ble_eq_true rfl) rfl ?_)))))
  refine ex_for (I := fun j ls M' => ls = [some (.ref a), some (.int x), some (.int (nI j)), some (.int (nI na))] ∧ (∀ c, c ≠ a → M' c = M c) ∧ ∀ i, i < j → M' a i = x) na ?_ ?_ 0 _ _ (Nat.zero_le _) ⟨rfl, fun _ _ => rfl, fun i hi => by omega⟩
  · intro j ls M' hj h ih
    obtain ⟨rfl, f1, f2⟩ := h
    refine (ex_il2 dJ7_fill_53178_5 (ex_il3 dJ7_fill_53178_6 (ex_icmp_geN (tgt := 20) dJ7_fill_53178_7 rfl (by omega) (by omega) (fun c7 => (absurd c7 (by omega))) (fun c7 => (ex_al0 dJ7_fill_53178_10 (ex_il2 dJ7_fill_53178_11 (ex_il1 dJ7_fill_53178_12 (ex_istN dJ7_fill_53178_13 ha (by omega) (by omega) (ex_inc2 dJ7_fill_53178_14 (Nat.le_of_ble_eq_true rfl) rfl (inc1 _) (ex_goto (tgt := 5) dJ7_fill_53178_17 rfl ?_))))))))))
    refine ih _ _ ⟨rfl, fun c e => by rw [wr_oc e]; exact f1 c e, fun i hi => ?_⟩
    by_cases e : i = j
    · subst e; rw [wr_s]
    · rw [wr_oi e]; exact f2 i (by omega)
  · intro ls M' h
    obtain ⟨rfl, f1, f2⟩ := h
    refine (ex_il2 dJ7_fill_53178_5 (ex_il3 dJ7_fill_53178_6 (ex_icmp_geN (tgt := 20) dJ7_fill_53178_7 rfl (by omega) (by omega) (fun c7 => (ex_rv dJ7_fill_53178_20 rfl (⟨f1, f2⟩))) (fun c7 => (absurd (Nat.le_refl _) c7)))))
/-! the class: piles -/
def remr (r : Nat) (u : Pk) (x : St) : Pk := if u.1 = r then (r, fun k => if k = r - 1 then x else u.2 (k + 1)) else (u.1 + 1, fun k => if k = u.1 then x else u.2 k)
def PkB (M : MM) (P r n b : Nat) (u : Pk) : Prop := M P 1 = nI b ∧ b < r ∧ M P 2 = nI u.1 ∧ u.1 ≤ r ∧ ∀ k, k < u.1 → stX M (P + 2 + 4 * ((b + k) % r)) n (u.2 k)
def PkX (M : MM) (P r n : Nat) (u : Pk) : Prop := ∃ b, PkB M P r n b u
theorem PkX.of {M M' : MM} {P r n : Nat} {u : Pk} (h : PkX M P r n u) (hc : ∀ c, P ≤ c → c < P + 2 + 4 * r → M' c = M c) : PkX M' P r n u := by
  obtain ⟨b, h1, h2, h3, h4, h5⟩ := h
  refine ⟨b, by rw [hc P (by omega) (by omega)]; exact h1, h2, by rw [hc P (by omega) (by omega)]; exact h3, h4, fun k hk => ?_⟩
  have hm := Nat.mod_lt (b + k) (show r > 0 by omega)
  exact (h5 k hk).of (fun c e1 e2 => hc c (by omega) (by omega))
theorem x_rowAt {sh : Sh} {Mr : MR} {P r : Nat} (hP : PI sh Mr P r) (M : MM) (b k : Nat) (h1 : M P 1 = nI b) (hb : b < r) (hk : k < r) (hr : r ≤ 8) : CtP mX4_rowAt [.ref P, .int (nI k)] sh Mr M (nI ((b + k) % r)) := by
  refine ct_of (mi := mX4_rowAt) (ls := [some (.ref P), some (.int (nI k)), none]) rfl rfl (Nat.le_of_ble_eq_true rfl) rfl ?_
  refine (ex_al0 dX4_rowAt_0 (ex_getI dX4_rowAt_1 flX4_16 (pi_sh hP) (ex_top (h1) (ex_il1 dX4_rowAt_4 (ex_iaddN dX4_rowAt_5 (ex_is2 dX4_rowAt_6 (Nat.le_of_ble_eq_true rfl) rfl (ex_il2 dX4_rowAt_7 (ex_al0 dX4_rowAt_8 (ex_getR dX4_rowAt_9 flX4_9 (pi_sh hP) (pi_r0 hP) (ex_alen dX4_rowAt_12 (pi_a0 hP) (by decide) (ex_icmp_geN (tgt := 20) dX4_rowAt_13 rfl (by omega) (by omega) (fun c13 => ?_) (fun c13 => ?_))))))))))))
  · refine (ex_il2 dX4_rowAt_20 (ex_al0 dX4_rowAt_21 (ex_getR dX4_rowAt_22 flX4_9 (pi_sh hP) (pi_r0 hP) (ex_alen dX4_rowAt_25 (pi_a0 hP) (by decide) (ex_isubN dX4_rowAt_26 (by omega) (ex_ri dX4_rowAt_27 rfl rfl (⟨by congr 1; rw [Nat.mod_eq_sub_mod (by omega), Nat.mod_eq_of_lt (by omega)], rfl⟩)))))))
  · refine (ex_il2 dX4_rowAt_16 (ex_goto (tgt := 27) dX4_rowAt_17 rfl (ex_ri dX4_rowAt_27 rfl rfl (⟨by rw [Nat.mod_eq_of_lt (by omega)], rfl⟩))))
theorem x_put {sh : Sh} {Mr : MR} {P r S : Nat} (hP : PI sh Mr P r) (hS : SA sh Mr S) (hd : S + 4 ≤ P ∨ P + 2 + 4 * r ≤ S) (hr : r ≤ 8) (hr2 : 2 ≤ r) (M : MM) (n : Nat) (hn : n ≤ 6) (u : Pk) (hu : PkX M P r n u) (x : St) (hx : stX M S n x) : CtV mX4_put [.ref P, .ref S] sh Mr M (fun M' => (∀ c, c < P ∨ P + 2 + 4 * r ≤ c → M' c = M c) ∧ PkX M' P r n (remr r u x)) := by
  obtain ⟨b, h1, hb, h2, h3, h4⟩ := hu
  refine ct_of (mi := mX4_put) (ls := [some (.ref P), some (.ref S)]) rfl rfl (Nat.le_of_ble_eq_true rfl) rfl ?_
  have J : ∀ (M1 : MM) (b1 k : Nat) (u1 : Nat → St), (∀ c, c ≠ P → M1 c = M c) → M1 P 1 = nI b1 → b1 < r → M1 P 2 = nI k → k < r → (∀ i, i < k → stX M1 (P + 2 + 4 * ((b1 + i) % r)) n (u1 i)) → remr r u x = (k + 1, fun i => if i = k then x else u1 i) → EV mX4_put sh Mr (fun M' => (∀ c, c < P ∨ P + 2 + 4 * r ≤ c → M' c = M c) ∧ PkX M' P r n (remr r u x)) 31 [some (.ref P), some (.ref S)] [] M1 := by
    intro M1 b1 k u1 f1 f2 f3 f4 f5 f6 f7
    have hm := Nat.mod_lt (b1 + k) (show r > 0 by omega)
    have hd2 : (P + 2 + 4 * ((b1 + k) % r)) + 4 ≤ S ∨ S + 4 ≤ P + 2 + 4 * ((b1 + k) % r) := by omega
    have hx1 : stX M1 S n x := hx.of (fun c e1 e2 => f1 c (by omega))
    refine (ex_al0 dX4_put_31 (ex_getR dX4_put_32 flX4_9 (pi_sh hP) (pi_r0 hP) (ex_al0 dX4_put_35 (ex_al0 dX4_put_36 (ex_getI dX4_put_37 flX4_20 (pi_sh hP) (ex_top (f4) (ex_VP1 dX4_put_40 lkX4_23 (pi_sh hP) ⟨_, _, rfl⟩ ⟨(Nat.le_of_ble_eq_true rfl), (Nat.le_of_ble_eq_true rfl)⟩ ⟨Nat.le_refl _, Nat.le_refl _⟩ (Nat.le_of_ble_eq_true rfl) (x_rowAt hP M1 b1 k f2 f3 f5 hr) (ex_aald1N dX4_put_43 (pi_a0 hP) (by omega) (Nat.mod_lt _ (by omega)) ((hP.2.2.2 _ hm).1) (ex_al1 dX4_put_44 (ex_VV1 dX4_put_45 lkX4_27 (sa_sh ((hP.2.2.2 _ hm).2)) ⟨_, _, rfl⟩ ⟨(Nat.le_of_ble_eq_true rfl), (Nat.le_of_ble_eq_true rfl)⟩ ⟨Nat.le_refl _, Nat.le_refl _⟩ (Nat.le_of_ble_eq_true rfl) (x_copy ((hP.2.2.2 _ hm).2) hS hd2 M1) (fun M45 h45 => ?_)))))))))))
    obtain ⟨g1, g2⟩ := h45
    refine (ex_al0 dX4_put_48 (ex_dupR dX4_put_49 (ex_getI dX4_put_50 flX4_20 (pi_sh hP) (ex_top (y := nI (k)) (by rw [g1 P (by omega)]; exact f4) (ex_iconst (v := nI 1) dX4_put_53 rfl (ex_iaddN dX4_put_54 (ex_putI dX4_put_55 (fpX4_20 _) (pi_sh hP) (ex_rv dX4_put_58 rfl ?_))))))))
    rw [f7]
    refine ⟨fun c hc => by rw [wr_oc (by omega), g1 c (by omega)]; exact f1 c (by omega), b1, by rw [wr_oi (by omega), g1 P (by omega)]; exact f2, f3, wr_s, f5, fun i hi => ?_⟩
    have hi : i < k + 1 := hi
    have hw : ∀ y, stX M45 (P + 2 + 4 * ((b1 + i) % r)) n y → stX (wr M45 P 2 (nI (k + 1))) (P + 2 + 4 * ((b1 + i) % r)) n y := fun y h => h.of (fun c e1 e2 => wr_oc (by omega))
    apply hw
    by_cases e : i = k
    · subst e
      simp only [if_pos]
      exact g2 n x hn hx1
    · simp only [if_neg e]
      have hne : (b1 + i) % r ≠ (b1 + k) % r := by
        intro he
        rcases Nat.lt_or_ge (b1 + i) r with a1 | a1
        · rw [Nat.mod_eq_of_lt a1] at he
          rcases Nat.lt_or_ge (b1 + k) r with a2 | a2
          · rw [Nat.mod_eq_of_lt a2] at he; omega
          · rw [Nat.mod_eq_sub_mod a2, Nat.mod_eq_of_lt (show b1 + k - r < r by omega)] at he; omega
        · rw [Nat.mod_eq_sub_mod a1, Nat.mod_eq_of_lt (show b1 + i - r < r by omega)] at he
          rw [Nat.mod_eq_sub_mod (show b1 + k ≥ r by omega), Nat.mod_eq_of_lt (show b1 + k - r < r by omega)] at he
          omega
      exact (f6 i (by omega)).of (fun c e1 e2 => g1 c (by omega))
  refine (ex_al0 dX4_put_0 (ex_getI dX4_put_1 flX4_20 (pi_sh hP) (ex_top (h2) (ex_al0 dX4_put_4 (ex_getR dX4_put_5 flX4_9 (pi_sh hP) (pi_r0 hP) (ex_alen dX4_put_8 (pi_a0 hP) (by decide) (ex_icmp_neN (tgt := 31) dX4_put_9 rfl (by omega) (by omega) (fun c9 => ?_) (fun c9 => ?_))))))))
  · refine J M b u.1 u.2 (fun _ _ => rfl) h1 hb h2 (by omega) h4 ?_
    unfold remr
    rw [if_neg c9]
  · refine (ex_al0 dX4_put_12 (ex_al0 dX4_put_13 (ex_iconst (v := nI 1) dX4_put_14 rfl (ex_VP1 dX4_put_15 lkX4_23 (pi_sh hP) ⟨_, _, rfl⟩ ⟨(Nat.le_of_ble_eq_true rfl), (Nat.le_of_ble_eq_true rfl)⟩ ⟨Nat.le_refl _, Nat.le_refl _⟩ (Nat.le_of_ble_eq_true rfl) (x_rowAt hP M b 1 h1 hb (by omega) hr) (ex_putI dX4_put_18 (fpX4_16 _) (pi_sh hP) (ex_al0 dX4_put_21 (ex_dupR dX4_put_22 (ex_getI dX4_put_23 flX4_20 (pi_sh hP) (ex_top (y := nI ((u.1))) (by rw [wr_oi (by omega)]; exact h2) (ex_iconst (v := nI 1) dX4_put_26 rfl (ex_isubN dX4_put_27 (by omega) (ex_putI dX4_put_28 (fpX4_20 _) (pi_sh hP) ?_))))))))))))
    refine J _ ((b + 1) % r) (u.1 - 1) (fun i => u.2 (i + 1)) (fun c hc => by rw [wr_oc hc, wr_oc hc]) (by rw [wr_oi (by omega), wr_s]) (Nat.mod_lt _ (by omega)) wr_s (by omega) (fun i hi => ?_) ?_
    · have e : ((b + 1) % r + i) % r = (b + (i + 1)) % r := by rw [Nat.mod_add_mod, show b + 1 + i = b + (i + 1) by omega]
      rw [e]
      have hm := Nat.mod_lt (b + (i + 1)) (show r > 0 by omega)
      exact (h4 (i + 1) (by omega)).of (fun c e1 e2 => by rw [wr_oc (by omega), wr_oc (by omega)])
    · unfold remr
      rw [if_pos c9, show u.1 - 1 + 1 = r by omega, c9]
theorem x_takeInto {sh : Sh} {Mr : MR} {P r S : Nat} (hP : PI sh Mr P r) (hS : SA sh Mr S) (hd : S + 4 ≤ P ∨ P + 2 + 4 * r ≤ S) (hr : r ≤ 8) (M : MM) (n : Nat) (hn : n ≤ 6) (u : Pk) (hu : PkX M P r n u) : CtI mX4_takeInto [.ref P, .ref S] sh Mr M (fun v M' => v = bI (!decide (u.1 = 0)) ∧ (∀ c, c ≠ P → (c < S ∨ S + 4 ≤ c) → M' c = M c) ∧ (u.1 = 0 → M' = M) ∧ (u.1 ≠ 0 → PkX M' P r n (u.1 - 1, u.2) ∧ stX M' S n (u.2 (u.1 - 1)))) := by
  obtain ⟨b, h1, hb, h2, h3, h4⟩ := hu
  refine ct_of (mi := mX4_takeInto) (ls := [some (.ref P), some (.ref S)]) rfl rfl (Nat.le_of_ble_eq_true rfl) rfl ?_
  refine (ex_al0 dX4_takeInto_0 (ex_getI dX4_takeInto_1 flX4_20 (pi_sh hP) (ex_top (h2) (ex_if_neN (tgt := 9) dX4_takeInto_4 rfl (by omega) (fun c4 => ?_) (fun c4 => ?_)))))
  · have hm := Nat.mod_lt (b + (u.1 - 1)) (show r > 0 by omega)
    have hd2 : S + 4 ≤ P + 2 + 4 * ((b + (u.1 - 1)) % r) ∨ (P + 2 + 4 * ((b + (u.1 - 1)) % r)) + 4 ≤ S := by omega
    refine (ex_al0 dX4_takeInto_9 (ex_dupR dX4_takeInto_10 (ex_getI dX4_takeInto_11 flX4_20 (pi_sh hP) (ex_top (h2) (ex_iconst (v := nI 1) dX4_takeInto_14 rfl (ex_isubN dX4_takeInto_15 (by omega) (ex_putI dX4_takeInto_16 (fpX4_20 _) (pi_sh hP) (ex_al1 dX4_takeInto_19 (ex_al0 dX4_takeInto_20 (ex_getR dX4_takeInto_21 flX4_9 (pi_sh hP) (pi_r0 hP) (ex_al0 dX4_takeInto_24 (ex_al0 dX4_takeInto_25 (ex_getI dX4_takeInto_26 flX4_20 (pi_sh hP) (ex_top (y := nI ((u.1 - 1))) (wr_s) (ex_VP1 dX4_takeInto_29 lkX4_23 (pi_sh hP) ⟨_, _, rfl⟩ ⟨(Nat.le_of_ble_eq_true rfl), (Nat.le_of_ble_eq_true rfl)⟩ ⟨Nat.le_refl _, Nat.le_refl _⟩ (Nat.le_of_ble_eq_true rfl) (x_rowAt hP _ b (u.1 - 1) (by rw [wr_oi (by omega)]; exact h1) hb (by omega) hr) (ex_aald1N dX4_takeInto_32 (pi_a0 hP) (by omega) (Nat.mod_lt _ (by omega)) ((hP.2.2.2 _ hm).1) (ex_VV1 dX4_takeInto_33 lkX4_27 (sa_sh hS) ⟨_, _, rfl⟩ ⟨(Nat.le_of_ble_eq_true rfl), (Nat.le_of_ble_eq_true rfl)⟩ ⟨Nat.le_refl _, Nat.le_refl _⟩ (Nat.le_of_ble_eq_true rfl) (x_copy hS ((hP.2.2.2 _ hm).2) hd2 _) (fun M33 h33 => ?_))))))))))))))))))
    obtain ⟨g1, g2⟩ := h33
    have hst : ∀ (k : Nat) (y : St), k < r → stX M (P + 2 + 4 * k) n y → stX (wr M P 2 (nI (u.1 - 1))) (P + 2 + 4 * k) n y := fun k y hk h => h.of (fun c e1 e2 => wr_oc (by omega))
    refine (ex_iconst (v := nI 1) dX4_takeInto_36 rfl (ex_ri dX4_takeInto_37 rfl rfl ?_))
    refine ⟨bI_tt (by simp [c4]), fun c hc hs => by rw [g1 c hs, wr_oc hc], fun h => absurd h c4, fun _ => ⟨⟨b, ?_, hb, ?_, ?_, fun k hk => ?_⟩, ?_⟩⟩
    · rw [g1 P (by omega), wr_oi (by omega)]; exact h1
    · rw [g1 P (by omega), wr_s]
    · show u.1 - 1 ≤ r; omega
    · have hk : k < u.1 - 1 := hk
      have hm2 := Nat.mod_lt (b + k) (show r > 0 by omega)
      exact (hst _ _ hm2 (h4 k (by omega))).of (fun c e1 e2 => g1 c (by omega))
    · exact g2 n _ hn (hst _ _ hm (h4 _ (by omega)))
  · refine (ex_iconst (v := nI 0) dX4_takeInto_7 rfl (ex_ri dX4_takeInto_8 rfl rfl (⟨bI_ff (by simp [c4]), fun _ _ _ => rfl, fun _ => rfl, fun h => absurd c4 h⟩)))
