/-! the reference's small methods -/
theorem m_in (v a b : Int32) (sh : Sh) (Mr : MR) (M : MM) : CtP mX9_in [.int v, .int a, .int b] sh Mr M (bI (inB v a b)) := by
  refine ct_of (mi := mX9_in) (ls := [some (.int v), some (.int a), some (.int b)]) rfl rfl (Nat.le_of_ble_eq_true rfl) rfl ?_
  refine (ex_il0 dX9_in_0 (ex_il1 dX9_in_1 (ex_icmp_lt (tgt := 14) dX9_in_2 rfl (fun c2 => ?_) (fun c2 => ?_))))
  · refine (ex_iconst (v := nI 0) dX9_in_14 rfl (ex_ri dX9_in_15 rfl rfl (⟨by simp [inB, i_nle c2, bI], rfl⟩)))
  · refine (ex_il0 dX9_in_5 (ex_il2 dX9_in_6 (ex_icmp_gt (tgt := 14) dX9_in_7 rfl (fun c7 => ?_) (fun c7 => ?_))))
    · refine (ex_iconst (v := nI 0) dX9_in_14 rfl (ex_ri dX9_in_15 rfl rfl (⟨by simp [inB, i_nlt c2, i_nle c7, bI], rfl⟩)))
    · refine (ex_iconst (v := nI 1) dX9_in_10 rfl (ex_goto (tgt := 15) dX9_in_11 rfl (ex_ri dX9_in_15 rfl rfl (⟨by simp [inB, i_nlt c2, i_nlt c7, bI], rfl⟩))))
theorem m_has (x : Int32) (j : Nat) (hj : j < 32) (sh : Sh) (Mr : MR) (M : MM) : CtP mX9_has [.int x, .int (nI j)] sh Mr M (bI (bt x j)) := by
  refine ct_of (mi := mX9_has) (ls := [some (.int x), some (.int (nI j))]) rfl rfl (Nat.le_of_ble_eq_true rfl) rfl ?_
  refine (ex_il0 dX9_has_0 (ex_il1 dX9_has_1 (ex_ishr dX9_has_2 (ex_iconst (v := nI 1) dX9_has_3 rfl (ex_iand dX9_has_4 (ex_top (bit1 x hj) (ex_iconst (v := nI 1) dX9_has_5 rfl (ex_icmp_ne (tgt := 13) dX9_has_6 rfl (fun c6 => ?_) (fun c6 => ?_)))))))))
  · refine (ex_iconst (v := nI 0) dX9_has_13 rfl (ex_ri dX9_has_14 rfl rfl (⟨bI_n1 c6, rfl⟩)))
  · refine (ex_iconst (v := nI 1) dX9_has_9 rfl (ex_goto (tgt := 14) dX9_has_10 rfl (ex_ri dX9_has_14 rfl rfl (⟨c6.symm, rfl⟩))))
theorem m_bits (x : Int32) (sh : Sh) (Mr : MR) (M : MM) : CtP mX9_bits [.int x] sh Mr M (nI (cnt (bt x) 24)) := by
  refine ct_of (mi := mX9_bits) (ls := [some (.int x), none, none]) rfl rfl (Nat.le_of_ble_eq_true rfl) rfl ?_
  refine (ex_iconst (v := nI 0) dX9_bits_0 rfl (ex_is1 dX9_bits_1 (Nat.le_of_ble_eq_true rfl) rfl (ex_iconst (v := nI 0) dX9_bits_2 rfl (ex_is2 dX9_bits_3 (Nat.le_of_ble_eq_true rfl) rfl ?_))))
  refine ex_for (I := fun i ls M' => ls = [some (.int x), some (.int (nI (cnt (bt x) i))), some (.int (nI i))] ∧ M' = M) 24 ?_ ?_ 0 _ _ (Nat.zero_le _) ⟨rfl, rfl⟩
  · intro i ls M' hi h ih
    obtain ⟨rfl, rfl⟩ := h
    refine (ex_il2 dX9_bits_4 (ex_bipush (v := nI 24) dX9_bits_5 rfl (ex_icmp_geN (tgt := 24) dX9_bits_7 rfl (by omega) (by omega) (fun c7 => (absurd c7 (by omega))) (fun c7 => (ex_il1 dX9_bits_10 (ex_il0 dX9_bits_11 (ex_il2 dX9_bits_12 (ex_ishr dX9_bits_13 (ex_iconst (v := nI 1) dX9_bits_14 rfl (ex_iand dX9_bits_15 (ex_top (bit1 x (by omega)) (ex_iadd dX9_bits_16 (ex_top (nI_cnt _ _) (ex_is1 dX9_bits_17 (Nat.le_of_ble_eq_true rfl) rfl (ex_inc2 dX9_bits_18 (Nat.le_of_ble_eq_true rfl) rfl (inc1 _) (ex_goto (tgt := 4) dX9_bits_21 rfl ?_))))))))))))))))
    exact ih _ _ ⟨rfl, rfl⟩
  · intro ls M' h
    obtain ⟨rfl, rfl⟩ := h
    refine (ex_il2 dX9_bits_4 (ex_bipush (v := nI 24) dX9_bits_5 rfl (ex_icmp_geN (tgt := 24) dX9_bits_7 rfl (by omega) (by omega) (fun c7 => (ex_il1 dX9_bits_24 (ex_ri dX9_bits_25 rfl rfl (⟨rfl, rfl⟩)))) (fun c7 => (absurd (Nat.le_refl 24) c7)))))
theorem m_isStripe (v : Int32) (sh : Sh) (Mr : MR) (M : MM) : CtP mX9_isStripe [.int v] sh Mr M (bI (inB v (nI 0) (nI 23))) := by
  refine ct_of (mi := mX9_isStripe) (ls := [some (.int v)]) rfl rfl (Nat.le_of_ble_eq_true rfl) rfl ?_
  refine (ex_il0 dX9_isStripe_0 (ex_iconst (v := nI 0) dX9_isStripe_1 rfl (ex_bipush (v := nI 23) dX9_isStripe_2 rfl (ex_SP3 dX9_isStripe_4 lkX9_88 ⟨(Nat.le_of_ble_eq_true rfl), (Nat.le_of_ble_eq_true rfl)⟩ ⟨Nat.le_refl _, Nat.le_refl _⟩ (Nat.le_of_ble_eq_true rfl) (m_in _ _ _ _ _ _) (ex_rb dX9_isStripe_7 rfl (⟨rfl, rfl⟩))))))
theorem m_isFog (v : Int32) (sh : Sh) (Mr : MR) (M : MM) : CtP mX9_isFog [.int v] sh Mr M (bI (inB v (nI 0) (nI 3))) := by
  refine ct_of (mi := mX9_isFog) (ls := [some (.int v)]) rfl rfl (Nat.le_of_ble_eq_true rfl) rfl ?_
  refine (ex_il0 dX9_isFog_0 (ex_iconst (v := nI 0) dX9_isFog_1 rfl (ex_iconst (v := nI 3) dX9_isFog_2 rfl (ex_SP3 dX9_isFog_3 lkX9_88 ⟨(Nat.le_of_ble_eq_true rfl), (Nat.le_of_ble_eq_true rfl)⟩ ⟨Nat.le_refl _, Nat.le_refl _⟩ (Nat.le_of_ble_eq_true rfl) (m_in _ _ _ _ _ _) (ex_rb dX9_isFog_6 rfl (⟨rfl, rfl⟩))))))
theorem m_isFigure (v : Int32) (sh : Sh) (Mr : MR) (M : MM) : CtP mX9_isFigure [.int v] sh Mr M (bI (inB v (nI 48) (nI 57))) := by
  refine ct_of (mi := mX9_isFigure) (ls := [some (.int v)]) rfl rfl (Nat.le_of_ble_eq_true rfl) rfl ?_
  refine (ex_il0 dX9_isFigure_0 (ex_bipush (v := nI 48) dX9_isFigure_1 rfl (ex_bipush (v := nI 57) dX9_isFigure_3 rfl (ex_SP3 dX9_isFigure_5 lkX9_88 ⟨(Nat.le_of_ble_eq_true rfl), (Nat.le_of_ble_eq_true rfl)⟩ ⟨Nat.le_refl _, Nat.le_refl _⟩ (Nat.le_of_ble_eq_true rfl) (m_in _ _ _ _ _ _) (ex_rb dX9_isFigure_8 rfl (⟨rfl, rfl⟩))))))
theorem m_isTenant {sh : Sh} {Mr : MR} {B : Nat} (hB : MD sh Mr B) (v : Int32) (M : MM) : CtP mX9_isTenant [.ref B, .int v] sh Mr M (bI (inB v (nI 0) (M B 0 - nI 1))) := by
  refine ct_of (mi := mX9_isTenant) (ls := [some (.ref B), some (.int v)]) rfl rfl (Nat.le_of_ble_eq_true rfl) rfl ?_
  refine (ex_il1 dX9_isTenant_0 (ex_iconst (v := nI 0) dX9_isTenant_1 rfl (ex_al0 dX9_isTenant_2 (ex_getI dX9_isTenant_3 flX9_85 (md_sh hB) (ex_iconst (v := nI 1) dX9_isTenant_6 rfl (ex_isub dX9_isTenant_7 (ex_SP3 dX9_isTenant_8 lkX9_88 ⟨(Nat.le_of_ble_eq_true rfl), (Nat.le_of_ble_eq_true rfl)⟩ ⟨Nat.le_refl _, Nat.le_refl _⟩ (Nat.le_of_ble_eq_true rfl) (m_in _ _ _ _ _ _) (ex_rb dX9_isTenant_11 rfl (⟨rfl, rfl⟩)))))))))
theorem m_isShip {sh : Sh} {Mr : MR} {B : Nat} (hB : MD sh Mr B) (v : Int32) (M : MM) : CtP mX9_isShip [.ref B, .int v] sh Mr M (bI (inB v (nI 0) (M B 2 - nI 1))) := by
  refine ct_of (mi := mX9_isShip) (ls := [some (.ref B), some (.int v)]) rfl rfl (Nat.le_of_ble_eq_true rfl) rfl ?_
  refine (ex_il1 dX9_isShip_0 (ex_iconst (v := nI 0) dX9_isShip_1 rfl (ex_al0 dX9_isShip_2 (ex_getI dX9_isShip_3 flX9_92 (md_sh hB) (ex_iconst (v := nI 1) dX9_isShip_6 rfl (ex_isub dX9_isShip_7 (ex_SP3 dX9_isShip_8 lkX9_88 ⟨(Nat.le_of_ble_eq_true rfl), (Nat.le_of_ble_eq_true rfl)⟩ ⟨Nat.le_refl _, Nat.le_refl _⟩ (Nat.le_of_ble_eq_true rfl) (m_in _ _ _ _ _ _) (ex_rb dX9_isShip_11 rfl (⟨rfl, rfl⟩)))))))))
theorem m_isTold {sh : Sh} {Mr : MR} {B : Nat} (hB : MD sh Mr B) (k : Nat) (hk : k < 5) (a b : Int32) (M : MM) : CtP mX9_isTold [.ref B, .int (nI k), .int a, .int b] sh Mr M (bI (inB (M (B + 9) k) a b)) := by
  refine ct_of (mi := mX9_isTold) (ls := [some (.ref B), some (.int (nI k)), some (.int a), some (.int b)]) rfl rfl (Nat.le_of_ble_eq_true rfl) rfl ?_
  refine (ex_al0 dX9_isTold_0 (ex_getR dX9_isTold_1 flX9_34 (md_sh hB) (md_r16 hB) (ex_il1 dX9_isTold_4 (ex_ildN dX9_isTold_5 (md_a16 hB) (by omega) (by omega) (ex_il2 dX9_isTold_6 (ex_il3 dX9_isTold_7 (ex_SP3 dX9_isTold_8 lkX9_88 ⟨(Nat.le_of_ble_eq_true rfl), (Nat.le_of_ble_eq_true rfl)⟩ ⟨Nat.le_refl _, Nat.le_refl _⟩ (Nat.le_of_ble_eq_true rfl) (m_in _ _ _ _ _ _) (ex_rb dX9_isTold_11 rfl (⟨rfl, rfl⟩)))))))))
/-- the letter at a place, -1 behind the last -/
theorem m_letterAt {sh : Sh} {Mr : MR} {B : Nat} (hB : MD sh Mr B) (k n : Nat) (M : MM) (hn : M B 14 = nI n) (hn2 : n ≤ 200) (hk : k < 2 ^ 31) : CtP mX9_letterAt [.ref B, .int (nI k)] sh Mr M (if k < n then M (B + 8) k else -1) := by
  refine ct_of (mi := mX9_letterAt) (ls := [some (.ref B), some (.int (nI k))]) rfl rfl (Nat.le_of_ble_eq_true rfl) rfl ?_
  refine (ex_il1 dX9_letterAt_0 (ex_al0 dX9_letterAt_1 (ex_getI dX9_letterAt_2 flX9_95 (md_sh hB) (ex_top (hn) (ex_icmp_geN (tgt := 17) dX9_letterAt_5 rfl (by omega) (by omega) (fun c5 => ?_) (fun c5 => ?_))))))
  · refine (ex_iconst (v := (-1)) dX9_letterAt_17 rfl (ex_ri dX9_letterAt_18 rfl rfl (⟨by rw [if_neg (by omega)], rfl⟩)))
  · refine (ex_al0 dX9_letterAt_8 (ex_getR dX9_letterAt_9 flX9_31 (md_sh hB) (md_r13 hB) (ex_il1 dX9_letterAt_12 (ex_ildN dX9_letterAt_13 (md_a13 hB) (by omega) (by omega) (ex_goto (tgt := 18) dX9_letterAt_14 rfl (ex_ri dX9_letterAt_18 rfl rfl (⟨by rw [if_pos (by omega)], rfl⟩)))))))
/-- a row put into another -/
def putR (M : MM) (c fr : Nat) (f : Nat → Int32) (n : Nat) : MM := fun c2 j => if c2 = c ∧ fr ≤ j ∧ j < fr + n then f (j - fr) else M c2 j
theorem putR_s {M : MM} {c fr n : Nat} {f : Nat → Int32} : wr (putR M c fr f n) c (fr + n) (f n) = putR M c fr f (n + 1) := by
  funext c2 j
  unfold wr putR
  by_cases h : c2 = c
  · subst h
    by_cases h2 : j = fr + n
    · subst h2
      simp
    · have e : (fr ≤ j ∧ j < fr + (n + 1)) ↔ (fr ≤ j ∧ j < fr + n) := by omega
      simp [h2, e]
  · simp [h]
theorem putR_0 {M : MM} {c fr : Nat} {f : Nat → Int32} : putR M c fr f 0 = M := by
  funext c2 j
  unfold putR
  rw [if_neg (by omega)]
theorem putR_oc {M : MM} {c fr n c2 : Nat} {f : Nat → Int32} (h : c2 ≠ c) : putR M c fr f n c2 = M c2 := by
  funext j
  unfold putR
  rw [if_neg (by omega)]
theorem putR_in {M : MM} {c fr n j : Nat} {f : Nat → Int32} (h : j < n) : putR M c fr f n c (fr + j) = f j := by
  unfold putR
  rw [if_pos ⟨rfl, by omega, by omega⟩, Nat.add_sub_cancel_left]
theorem putR_out {M : MM} {c fr n j : Nat} {f : Nat → Int32} (h : j < fr ∨ fr + n ≤ j) : putR M c fr f n c j = M c j := by
  unfold putR
  rw [if_neg (by omega)]
theorem m_put {sh : Sh} {Mr : MR} (a b na nb fr n : Nat) (ha : sh[a]? = some (0, na)) (hb : sh[b]? = some (0, nb)) (hab : b ≠ a) (h1 : fr + n ≤ na) (h2 : n ≤ nb) (h3 : na < 1000) (h4 : nb < 1000) (M : MM) : CtV mX9_put [.ref a, .int (nI fr), .ref b, .int (nI n)] sh Mr M (fun M' => M' = putR M a fr (M b) n) := by
  refine ct_of (mi := mX9_put) (ls := [some (.ref a), some (.int (nI fr)), some (.ref b), some (.int (nI n)), none]) rfl rfl (Nat.le_of_ble_eq_true rfl) rfl ?_
  refine (ex_iconst (v := nI 0) dX9_put_0 rfl (ex_is4 dX9_put_1 (Nat.le_of_ble_eq_true rfl) rfl ?_))
  refine ex_for (I := fun i ls M' => ls = [some (.ref a), some (.int (nI fr)), some (.ref b), some (.int (nI n)), some (.int (nI i))] ∧ M' = putR M a fr (M b) i) n ?_ ?_ 0 _ _ (Nat.zero_le _) ⟨rfl, putR_0.symm⟩
  · intro i ls M' hi h ih
    obtain ⟨rfl, rfl⟩ := h
    refine (ex_il4 dX9_put_3 (ex_il3 dX9_put_5 (ex_icmp_geN (tgt := 25) dX9_put_6 rfl (by omega) (by omega) (fun c6 => (absurd c6 (by omega))) (fun c6 => (ex_al0 dX9_put_9 (ex_il1 dX9_put_10 (ex_il4 dX9_put_11 (ex_iaddN dX9_put_13 (ex_al2 dX9_put_14 (ex_il4 dX9_put_15 (ex_ildN dX9_put_17 hb (by omega) (by omega) (ex_istN dX9_put_18 ha (by omega) (by omega) (ex_inc4 dX9_put_19 (Nat.le_of_ble_eq_true rfl) rfl (inc1 _) (ex_goto (tgt := 3) dX9_put_22 rfl ?_))))))))))))))
    exact ih _ _ ⟨rfl, by rw [putR_oc hab]; exact putR_s⟩
  · intro ls M' h
    obtain ⟨rfl, rfl⟩ := h
    refine (ex_il4 dX9_put_3 (ex_il3 dX9_put_5 (ex_icmp_geN (tgt := 25) dX9_put_6 rfl (by omega) (by omega) (fun c6 => (ex_rv dX9_put_25 rfl (rfl))) (fun c6 => (absurd (Nat.le_refl n) c6)))))
