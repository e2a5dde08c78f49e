/-! the reference's acts, and what is kept -/
theorem in1 {n b : Nat} {v : Int32} (hb : b < 2 ^ 31) (h : inB v (nI 1) (nI b) = true) : ∃ k, (1 ≤ k ∧ k ≤ b) ∧ v = nI k := by
  have h' := h
  simp only [inB, Bool.and_eq_true, decide_eq_true_eq] at h'
  obtain ⟨j, hj, e⟩ := inB_nat (v := v) (b := b) hb (by simp only [inB, Bool.and_eq_true, decide_eq_true_eq]; exact ⟨Int32.le_trans (by decide) h'.1, h'.2⟩)
  refine ⟨j, ⟨?_, hj⟩, e⟩
  rw [e, inB_nI (by omega) (by omega) (by omega)] at h
  simp at h
  omega
theorem r_pay {sh : Sh} {Mr : MR} {B : Nat} (hB : MD sh Mr B) (M : MM) (g : Sg) (hg : RM B M g) (hv : sgV g) (i r : Int32) : CtI mX9_pay [.ref B, .int i, .int r] sh Mr M (PM B M (d_pay g i r)) := by
  have h6 := hv.1.1.1
  have hst := hg.2.2.2.2.1
  refine ct_of (mi := mX9_pay) (ls := [some (.ref B), some (.int i), some (.int r)]) rfl rfl (Nat.le_of_ble_eq_true rfl) rfl ?_
  refine (ex_al0 dX9_pay_0 (ex_il1 dX9_pay_1 (ex_VP1 dX9_pay_2 lkX9_187 (md_sh hB) ⟨_, _, rfl⟩ ⟨(Nat.le_of_ble_eq_true rfl), (Nat.le_of_ble_eq_true rfl)⟩ ⟨Nat.le_refl _, Nat.le_refl _⟩ (Nat.le_of_ble_eq_true rfl) (m_isT hB M g hg i) (ex_ifB_eq (tgt := 18) dX9_pay_5 rfl (fun c5 => ?_) (fun c5 => ?_)))))
  · refine (ex_iconst (v := (-1)) dX9_pay_18 rfl (ex_ri dX9_pay_19 rfl rfl (⟨by simp [d_pay, c5], by simp only [d_pay, c5]; exact hg, fun _ _ => rfl⟩)))
  · refine (ex_il2 dX9_pay_8 (ex_iconst (v := nI 1) dX9_pay_9 rfl (ex_bipush (v := nI 99) dX9_pay_10 rfl (ex_SP3 dX9_pay_12 lkX9_88 ⟨(Nat.le_of_ble_eq_true rfl), (Nat.le_of_ble_eq_true rfl)⟩ ⟨Nat.le_refl _, Nat.le_refl _⟩ (Nat.le_of_ble_eq_true rfl) (m_in _ _ _ _ _ _) (ex_ifB_ne (tgt := 20) dX9_pay_15 rfl (fun c15 => ?_) (fun c15 => ?_))))))
    · obtain ⟨i, hi, rfl⟩ := isT_nat hv c5
      have hci : cN (nI i) = i := cN_nI (by omega)
      have s1 := hst.2.2 i hi
      simp only [Nat.zero_add] at s1
      have hd : d_pay g (nI i) r = (less (g.2.1.2.2.1 i) r, act g (g.2.1.1, g.2.1.2.1, (fun k => if k = i then less (g.2.1.2.2.1 i) r else g.2.1.2.2.1 k), g.2.1.2.2.2)) := by simp [d_pay, c5, c15, hci]
      rw [hd]
      refine (ex_al0 dX9_pay_20 (ex_VV0 dX9_pay_21 lkX9_202 (md_sh hB) ⟨_, _, rfl⟩ ⟨(Nat.le_of_ble_eq_true rfl), (Nat.le_of_ble_eq_true rfl)⟩ ⟨Nat.le_refl _, Nat.le_refl _⟩ (Nat.le_of_ble_eq_true rfl) (r_remembers hB M g hg hv) (fun M21 h21 => ?_)))
      have hM : ∀ c, c ≠ B → c ≠ B + 5 → M21 c = M c := h21.1
      have ha : M21 (B + 4) (2 + i) = g.2.1.2.2.1 i := by rw [hM _ (by omega) (by omega)]; exact s1.1
      have J : EI mX9_pay sh Mr (PM B M (less (g.2.1.2.2.1 i) r, act g (g.2.1.1, g.2.1.2.1, (fun k => if k = i then less (g.2.1.2.2.1 i) r else g.2.1.2.2.1 k), g.2.1.2.2.2))) 57 [some (.ref B), some (.int (nI i)), some (.int r)] [.int (less (g.2.1.2.2.1 i) r), .int (nI (2 + i)), .ref (B + 4)] M21 := by
        refine (ex_istN dX9_pay_57 (md_a6 hB) (by omega) (by omega) (ex_al0 dX9_pay_58 (ex_getR dX9_pay_59 flX9_19 (md_sh hB) (md_r6 hB) (ex_iconst (v := nI 2) dX9_pay_62 rfl (ex_il1 dX9_pay_63 (ex_iaddN dX9_pay_64 (ex_ildN dX9_pay_65 (md_a6 hB) (by omega) (by omega) (ex_top (wr_s) (ex_ri dX9_pay_66 rfl rfl ?_)))))))))
        refine ⟨rfl, hg.acts h21 (fun c hc => wr_oc hc) _ ⟨?_, ?_, fun k hk => ?_⟩⟩
        · rw [wr_oi (by omega), hM _ (by omega) (by omega)]; exact hst.1
        · rw [wr_oi (by omega), hM _ (by omega) (by omega)]; exact hst.2.1
        · have s2 := hst.2.2 k hk
          simp only [Nat.zero_add] at s2 ⊢
          refine ⟨?_, ?_, ?_⟩
          · by_cases e : k = i
            · subst e; rw [wr_s]; simp
            · rw [wr_oi (by omega), hM _ (by omega) (by omega)]; simp only [if_neg e]; exact s2.1
          · rw [wr_oi (by omega), hM _ (by omega) (by omega)]; exact s2.2.1
          · rw [wr_oi (by omega), hM _ (by omega) (by omega)]; exact s2.2.2
      refine (ex_al0 dX9_pay_24 (ex_getR dX9_pay_25 flX9_19 (md_sh hB) (md_r6 hB) (ex_iconst (v := nI 2) dX9_pay_28 rfl (ex_il1 dX9_pay_29 (ex_iaddN dX9_pay_30 (ex_al0 dX9_pay_31 (ex_getR dX9_pay_32 flX9_19 (md_sh hB) (md_r6 hB) (ex_iconst (v := nI 2) dX9_pay_35 rfl (ex_il1 dX9_pay_36 (ex_iaddN dX9_pay_37 (ex_ildN dX9_pay_38 (md_a6 hB) (by omega) (by omega) (ex_top (ha) (ex_il2 dX9_pay_39 (ex_icmp_le (tgt := 56) dX9_pay_40 rfl (fun c40 => ?_) (fun c40 => ?_)))))))))))))))
      · refine (ex_iconst (v := nI 0) dX9_pay_56 rfl ?_)
        refine ex_top ?_ J
        unfold less; rw [if_neg (fun h => absurd c40 (i_nle h))]
      · refine (ex_al0 dX9_pay_43 (ex_getR dX9_pay_44 flX9_19 (md_sh hB) (md_r6 hB) (ex_iconst (v := nI 2) dX9_pay_47 rfl (ex_il1 dX9_pay_48 (ex_iaddN dX9_pay_49 (ex_ildN dX9_pay_50 (md_a6 hB) (by omega) (by omega) (ex_top (ha) (ex_il2 dX9_pay_51 (ex_isub dX9_pay_52 (ex_goto (tgt := 57) dX9_pay_53 rfl ?_))))))))))
        refine ex_top ?_ J
        unfold less; rw [if_pos (i_lt c40)]
    · refine (ex_iconst (v := (-1)) dX9_pay_18 rfl (ex_ri dX9_pay_19 rfl rfl (⟨by simp [d_pay, c15], by simp only [d_pay, c15, Bool.and_false]; exact hg, fun _ _ => rfl⟩)))
/-- two places of a row change -/
def swR (M : MM) (c i j : Nat) : MM := fun c2 k => if c2 = c then (if k = j then M c i else if k = i then M c j else M c k) else M c2 k
theorem swR_oc {M : MM} {c i j c2 : Nat} (h : c2 ≠ c) : swR M c i j c2 = M c2 := by funext k; simp [swR, h]
theorem m_swap {sh : Sh} {Mr : MR} (a na i j : Nat) (ha : sh[a]? = some (0, na)) (h3 : na < 1000) (hi : i < na) (hj : j < na) (M : MM) : CtV mX9_swap [.ref a, .int (nI i), .int (nI j)] sh Mr M (fun M' => M' = swR M a i j) := by
  refine ct_of (mi := mX9_swap) (ls := [some (.ref a), some (.int (nI i)), some (.int (nI j)), none]) rfl rfl (Nat.le_of_ble_eq_true rfl) rfl ?_
  refine (ex_al0 dX9_swap_0 (ex_il1 dX9_swap_1 (ex_ildN dX9_swap_2 ha (by omega) (by omega) (ex_is3 dX9_swap_3 (Nat.le_of_ble_eq_true rfl) rfl (ex_al0 dX9_swap_4 (ex_il1 dX9_swap_5 (ex_al0 dX9_swap_6 (ex_il2 dX9_swap_7 (ex_ildN dX9_swap_8 ha (by omega) (by omega) (ex_istN dX9_swap_9 ha (by omega) (by omega) (ex_al0 dX9_swap_10 (ex_il2 dX9_swap_11 (ex_il3 dX9_swap_12 (ex_istN dX9_swap_13 ha (by omega) (by omega) (ex_rv dX9_swap_14 rfl ?_)))))))))))))))
  funext c k
  unfold wr swR
  by_cases hc : c = a
  · subst hc
    by_cases h1 : k = j
    · subst h1; simp
    · by_cases h2 : k = i
      · subst h2; simp [h1]
      · simp [h1, h2]
  · simp [hc]
theorem r_change {sh : Sh} {Mr : MR} {B : Nat} (hB : MD sh Mr B) (M : MM) (g : Sg) (hg : RM B M g) (hv : sgV g) (i j : Int32) : CtI mX9_change [.ref B, .int i, .int j] sh Mr M (PM B M (d_change g i j)) := by
  have h6 := hv.1.1.1
  have hst := hg.2.2.2.2.1
  refine ct_of (mi := mX9_change) (ls := [some (.ref B), some (.int i), some (.int j)]) rfl rfl (Nat.le_of_ble_eq_true rfl) rfl ?_
  refine (ex_al0 dX9_change_0 (ex_il1 dX9_change_1 (ex_VP1 dX9_change_2 lkX9_187 (md_sh hB) ⟨_, _, rfl⟩ ⟨(Nat.le_of_ble_eq_true rfl), (Nat.le_of_ble_eq_true rfl)⟩ ⟨Nat.le_refl _, Nat.le_refl _⟩ (Nat.le_of_ble_eq_true rfl) (m_isT hB M g hg i) (ex_ifB_eq (tgt := 21) dX9_change_5 rfl (fun c5 => ?_) (fun c5 => ?_)))))
  · refine (ex_iconst (v := (-1)) dX9_change_21 rfl (ex_ri dX9_change_22 rfl rfl (⟨by simp [d_change, c5], by simp only [d_change, c5]; exact hg, fun _ _ => rfl⟩)))
  · refine (ex_al0 dX9_change_8 (ex_il2 dX9_change_9 (ex_VP1 dX9_change_10 lkX9_187 (md_sh hB) ⟨_, _, rfl⟩ ⟨(Nat.le_of_ble_eq_true rfl), (Nat.le_of_ble_eq_true rfl)⟩ ⟨Nat.le_refl _, Nat.le_refl _⟩ (Nat.le_of_ble_eq_true rfl) (m_isT hB M g hg j) (ex_ifB_eq (tgt := 21) dX9_change_13 rfl (fun c13 => ?_) (fun c13 => ?_)))))
    · refine (ex_iconst (v := (-1)) dX9_change_21 rfl (ex_ri dX9_change_22 rfl rfl (⟨by simp [d_change, c13], by simp only [d_change, c13, Bool.false_and, Bool.and_false]; exact hg, fun _ _ => rfl⟩)))
    · refine (ex_il1 dX9_change_16 (ex_il2 dX9_change_17 (ex_icmp_ne (tgt := 23) dX9_change_18 rfl (fun c18 => ?_) (fun c18 => ?_))))
      · obtain ⟨i, hi, rfl⟩ := isT_nat hv c5
        obtain ⟨j, hj, rfl⟩ := isT_nat hv c13
        have hne : ¬ i = j := fun e => c18 (by rw [e])
        have hci : cN (nI i) = i := cN_nI (by omega)
        have hcj : cN (nI j) = j := cN_nI (by omega)
        have hd : d_change g (nI i) (nI j) = (nI (g.2.1.2.2.2.1 j), act g (g.2.1.1, g.2.1.2.1, g.2.1.2.2.1, swp g.2.1.2.2.2.1 i j, swp g.2.1.2.2.2.2 i j)) := by simp [d_change, c5, c13, hci, hcj, c18]
        rw [hd]
        refine (ex_al0 dX9_change_23 (ex_VV0 dX9_change_24 lkX9_202 (md_sh hB) ⟨_, _, rfl⟩ ⟨(Nat.le_of_ble_eq_true rfl), (Nat.le_of_ble_eq_true rfl)⟩ ⟨Nat.le_refl _, Nat.le_refl _⟩ (Nat.le_of_ble_eq_true rfl) (r_remembers hB M g hg hv) (fun M24 h24 => ?_)))
        have hM : ∀ c, c ≠ B → c ≠ B + 5 → M24 c = M c := h24.1
        refine (ex_al0 dX9_change_27 (ex_getR dX9_change_28 flX9_19 (md_sh hB) (md_r6 hB) (ex_bipush (v := nI 8) dX9_change_31 rfl (ex_il1 dX9_change_33 (ex_iaddN dX9_change_34 (ex_bipush (v := nI 8) dX9_change_35 rfl (ex_il2 dX9_change_37 (ex_iaddN dX9_change_38 (ex_SV3 dX9_change_39 lkX9_205 ⟨(Nat.le_of_ble_eq_true rfl), (Nat.le_of_ble_eq_true rfl)⟩ ⟨Nat.le_refl _, Nat.le_refl _⟩ (Nat.le_of_ble_eq_true rfl) (m_swap (B + 4) 20 (8 + i) (8 + j) (md_a6 hB) (by omega) (by omega) (by omega) M24) (fun M39 h39 => ?_))))))))))
        subst h39
        refine (ex_al0 dX9_change_42 (ex_getR dX9_change_43 flX9_19 (md_sh hB) (md_r6 hB) (ex_bipush (v := nI 14) dX9_change_46 rfl (ex_il1 dX9_change_48 (ex_iaddN dX9_change_49 (ex_bipush (v := nI 14) dX9_change_50 rfl (ex_il2 dX9_change_52 (ex_iaddN dX9_change_53 (ex_SV3 dX9_change_54 lkX9_205 ⟨(Nat.le_of_ble_eq_true rfl), (Nat.le_of_ble_eq_true rfl)⟩ ⟨Nat.le_refl _, Nat.le_refl _⟩ (Nat.le_of_ble_eq_true rfl) (m_swap (B + 4) 20 (14 + i) (14 + j) (md_a6 hB) (by omega) (by omega) (by omega) _) (fun M54 h54 => ?_))))))))))
        subst h54
        have hA : ∀ k, k < g.1.1.1 → M24 (B + 4) (8 + k) = nI (g.2.1.2.2.2.1 k) := fun k hk => by rw [hM _ (by omega) (by omega)]; have := (hst.2.2 k hk).2.1; rw [Nat.zero_add] at this; exact this
        have hN : ∀ k, k < g.1.1.1 → M24 (B + 4) (14 + k) = nI (g.2.1.2.2.2.2 k) := fun k hk => by rw [hM _ (by omega) (by omega)]; have := (hst.2.2 k hk).2.2; rw [Nat.zero_add] at this; exact this
        have e8 : ∀ k, k < g.1.1.1 → swR (swR M24 (B + 4) (8 + i) (8 + j)) (B + 4) (14 + i) (14 + j) (B + 4) (8 + k) = nI (swp g.2.1.2.2.2.1 i j k) := by
          intro k hk
          simp only [swR, if_true, show ¬ 8 + k = 14 + j by omega, show ¬ 8 + k = 14 + i by omega, if_false, Nat.add_left_cancel_iff, hA i hi, hA j hj, hA k hk, swp]
          by_cases h1 : k = j
          · simp [h1]
          · by_cases h2 : k = i <;> simp [h1, h2, hne]
        have e14 : ∀ k, k < g.1.1.1 → swR (swR M24 (B + 4) (8 + i) (8 + j)) (B + 4) (14 + i) (14 + j) (B + 4) (14 + k) = nI (swp g.2.1.2.2.2.2 i j k) := by
          intro k hk
          simp only [swR, if_true, show ¬ 14 + k = 8 + j by omega, show ¬ 14 + k = 8 + i by omega, show ¬ 14 + i = 8 + j by omega, show ¬ 14 + i = 8 + i by omega, show ¬ 14 + j = 8 + j by omega, show ¬ 14 + j = 8 + i by omega, if_false, Nat.add_left_cancel_iff, hN i hi, hN j hj, hN k hk, swp]
          by_cases h1 : k = j
          · simp [h1]
          · by_cases h2 : k = i <;> simp [h1, h2, hne]
        refine (ex_al0 dX9_change_57 (ex_getR dX9_change_58 flX9_19 (md_sh hB) (md_r6 hB) (ex_bipush (v := nI 8) dX9_change_61 rfl (ex_il1 dX9_change_63 (ex_iaddN dX9_change_64 (ex_ildN dX9_change_65 (md_a6 hB) (by omega) (by omega) (ex_top (e8 i hi) (ex_ri dX9_change_66 rfl rfl ?_))))))))
        refine ⟨by simp [swp, hne], hg.acts h24 (fun c hc => by rw [swR_oc hc, swR_oc hc]) _ ⟨?_, ?_, fun k hk => ?_⟩⟩
        · simp only [swR, if_true, show ¬ 0 = 8 + j by omega, show ¬ 0 = 8 + i by omega, show ¬ 0 = 14 + j by omega, show ¬ 0 = 14 + i by omega, if_false]
          rw [hM _ (by omega) (by omega)]; exact hst.1
        · simp only [swR, if_true, show ¬ 0 + 1 = 8 + j by omega, show ¬ 0 + 1 = 8 + i by omega, show ¬ 0 + 1 = 14 + j by omega, show ¬ 0 + 1 = 14 + i by omega, if_false]
          rw [hM _ (by omega) (by omega)]; exact hst.2.1
        · rw [Nat.zero_add, Nat.zero_add, Nat.zero_add]
          refine ⟨?_, e8 k hk, e14 k hk⟩
          simp only [swR, if_true, show ¬ 2 + k = 8 + j by omega, show ¬ 2 + k = 8 + i by omega, show ¬ 2 + k = 14 + j by omega, show ¬ 2 + k = 14 + i by omega, if_false]
          rw [hM _ (by omega) (by omega)]
          have := (hst.2.2 k hk).1
          rw [Nat.zero_add] at this
          exact this
      · refine (ex_iconst (v := (-1)) dX9_change_21 rfl (ex_ri dX9_change_22 rfl rfl (⟨by simp [d_change, c18], by simp only [d_change, c18, decide_true, Bool.not_true, Bool.and_false]; exact hg, fun _ _ => rfl⟩)))
theorem r_smoke {sh : Sh} {Mr : MR} {B : Nat} (hB : MD sh Mr B) (M : MM) (g : Sg) (hg : RM B M g) (hv : sgV g) (s : Int32) : CtI mX9_smoke [.ref B, .int s] sh Mr M (PM B M (d_smoke g s)) := by
  have h6 := hv.1.1.1
  have hst := hg.2.2.2.2.1
  refine ct_of (mi := mX9_smoke) (ls := [some (.ref B), some (.int s)]) rfl rfl (Nat.le_of_ble_eq_true rfl) rfl ?_
  refine (ex_il1 dX9_smoke_0 (ex_SP1 dX9_smoke_1 lkX9_196 ⟨(Nat.le_of_ble_eq_true rfl), (Nat.le_of_ble_eq_true rfl)⟩ ⟨Nat.le_refl _, Nat.le_refl _⟩ (Nat.le_of_ble_eq_true rfl) (m_isStripe _ _ _ _) (ex_ifB_ne (tgt := 9) dX9_smoke_4 rfl (fun c4 => ?_) (fun c4 => ?_))))
  · have hP : isP s = true := c4
    obtain ⟨s, hs, rfl⟩ := isP_nat hP
    have hd : d_smoke g (nI s) = (bI (!bt g.2.1.2.1 s), act g (g.2.1.1, g.2.1.2.1 ^^^ (nI 1 <<< (nI s &&& 31)), g.2.1.2.2)) := by simp [d_smoke, hP, cN_nI (show s < 2 ^ 31 by omega)]
    rw [hd]
    refine (ex_al0 dX9_smoke_9 (ex_VV0 dX9_smoke_10 lkX9_202 (md_sh hB) ⟨_, _, rfl⟩ ⟨(Nat.le_of_ble_eq_true rfl), (Nat.le_of_ble_eq_true rfl)⟩ ⟨Nat.le_refl _, Nat.le_refl _⟩ (Nat.le_of_ble_eq_true rfl) (r_remembers hB M g hg hv) (fun M10 h10 => ?_)))
    have hM : ∀ c, c ≠ B → c ≠ B + 5 → M10 c = M c := h10.1
    refine (ex_al0 dX9_smoke_13 (ex_getR dX9_smoke_14 flX9_19 (md_sh hB) (md_r6 hB) (ex_iconst (v := nI 1) dX9_smoke_17 rfl (ex_dup2 dX9_smoke_18 (ex_ildN dX9_smoke_19 (md_a6 hB) (by omega) (by omega) (ex_top (y := (g.2.1.2.1)) (by rw [hM _ (by omega) (by omega)]; exact hst.2.1) (ex_iconst (v := nI 1) dX9_smoke_20 rfl (ex_il1 dX9_smoke_21 (ex_ishl dX9_smoke_22 (ex_ixor dX9_smoke_23 (ex_istN dX9_smoke_24 (md_a6 hB) (by omega) (by omega) (ex_al0 dX9_smoke_25 (ex_getR dX9_smoke_26 flX9_19 (md_sh hB) (md_r6 hB) (ex_iconst (v := nI 1) dX9_smoke_29 rfl (ex_ildN dX9_smoke_30 (md_a6 hB) (by omega) (by omega) (ex_top (wr_s) (ex_il1 dX9_smoke_31 (ex_ishr dX9_smoke_32 (ex_iconst (v := nI 1) dX9_smoke_33 rfl (ex_iand dX9_smoke_34 (ex_top (bit1 _ (by omega)) (ex_ri dX9_smoke_35 rfl rfl ?_))))))))))))))))))))))
    refine ⟨?_, hg.acts h10 (fun c hc => wr_oc hc) _ ⟨?_, wr_s, fun k hk => ?_⟩⟩
    · show bI _ = bI _
      rw [b_xor, one_shl (by omega) (by omega)]
      simp
    · rw [wr_oi (by omega), hM _ (by omega) (by omega)]; exact hst.1
    · rw [wr_oi (by omega), wr_oi (by omega), wr_oi (by omega), hM _ (by omega) (by omega)]
      exact hst.2.2 k hk
  · refine (ex_iconst (v := (-1)) dX9_smoke_7 rfl (ex_ri dX9_smoke_8 rfl rfl (⟨by simp [d_smoke, isP, c4], by simp only [d_smoke, isP, c4]; exact hg, fun _ _ => rfl⟩)))
theorem r_undo {sh : Sh} {Mr : MR} {B : Nat} (hB : MD sh Mr B) (M : MM) (g : Sg) (hg : RM B M g) (hv : sgV g) : CtI mX9_undo [.ref B] sh Mr M (PM B M (d_undo g)) := by
  have h6 := hv.1.1.1
  have h8 := hv.2.2.1.1
  obtain ⟨h1, h2, h3, h4, h5, ⟨hu, hu2⟩, ⟨hk, hk2⟩, h7⟩ := id hg
  refine ct_of (mi := mX9_undo) (ls := [some (.ref B), none]) rfl rfl (Nat.le_of_ble_eq_true rfl) rfl ?_
  refine (ex_al0 dX9_undo_0 (ex_getI dX9_undo_1 flX9_149 (md_sh hB) (ex_top (hu) (ex_if_neN (tgt := 10) dX9_undo_4 rfl (by omega) (fun c4 => ?_) (fun c4 => ?_)))))
  · have hd : d_undo g = (nI (g.2.2.1.1 - 1), (g.1, g.2.2.1.2 (g.2.2.1.1 - 1), (g.2.2.1.1 - 1, g.2.2.1.2), g.2.2.2)) := by simp [d_undo, c4]
    rw [hd]
    generalize hm : g.2.2.1.1 - 1 = m
    refine (ex_al0 dX9_undo_10 (ex_dupR dX9_undo_11 (ex_getI dX9_undo_12 flX9_149 (md_sh hB) (ex_top (hu) (ex_iconst (v := nI 1) dX9_undo_15 rfl (ex_isubN dX9_undo_16 (by omega) (ex_top (y := nI (m)) (by rw [hm]) (ex_putI dX9_undo_17 (fpX9_149 _) (md_sh hB) (ex_iconst (v := nI 0) dX9_undo_20 rfl (ex_is1 dX9_undo_21 (Nat.le_of_ble_eq_true rfl) rfl ?_))))))))))
    refine ex_for (I := fun i ls M' => ls = [some (.ref B), some (.int (nI i))] ∧ M' = putR (wr M B 7 (nI m)) (B + 4) 0 (fun j => M (B + 5) (20 * m + j)) i) 20 ?_ ?_ 0 _ _ (Nat.zero_le _) ⟨rfl, putR_0.symm⟩
    · intro i ls M' hi h ih
      obtain ⟨rfl, rfl⟩ := h
      refine (ex_il1 dX9_undo_22 (ex_bipush (v := nI 20) dX9_undo_23 rfl (ex_icmp_geN (tgt := 54) dX9_undo_25 rfl (by omega) (by omega) (fun c25 => (absurd c25 (by omega))) (fun c25 => (ex_al0 dX9_undo_28 (ex_getR dX9_undo_29 flX9_19 (md_sh hB) (md_r6 hB) (ex_il1 dX9_undo_32 (ex_al0 dX9_undo_33 (ex_getR dX9_undo_34 flX9_22 (md_sh hB) (md_r8 hB) (ex_bipush (v := nI 20) dX9_undo_37 rfl (ex_al0 dX9_undo_39 (ex_getI dX9_undo_40 flX9_149 (md_sh hB) (ex_top (y := nI (m)) (by rw [putR_oc (by omega), wr_s]) (ex_imulN dX9_undo_43 (ex_il1 dX9_undo_44 (ex_iaddN dX9_undo_45 (ex_ildN dX9_undo_46 (md_a8 hB) (by omega) (by omega) (ex_top (y := (M (B + 5) (20 * m + i))) (by rw [putR_oc (by omega), wr_oc (by omega)]) (ex_istN dX9_undo_47 (md_a6 hB) (by omega) (by omega) (ex_inc1 dX9_undo_48 (Nat.le_of_ble_eq_true rfl) rfl (inc1 _) (ex_goto (tgt := 22) dX9_undo_51 rfl ?_)))))))))))))))))))))
      refine ih _ _ ⟨rfl, ?_⟩
      have := putR_s (M := wr M B 7 (nI m)) (c := B + 4) (fr := 0) (f := fun j => M (B + 5) (20 * m + j)) (n := i)
      rw [Nat.zero_add] at this
      exact this
    · intro ls M' h
      obtain ⟨rfl, rfl⟩ := h
      refine (ex_il1 dX9_undo_22 (ex_bipush (v := nI 20) dX9_undo_23 rfl (ex_icmp_geN (tgt := 54) dX9_undo_25 rfl (by omega) (by omega) (fun c25 => (ex_al0 dX9_undo_54 (ex_getI dX9_undo_55 flX9_149 (md_sh hB) (ex_top (y := nI (m)) (by rw [putR_oc (by omega), wr_s]) (ex_ri dX9_undo_58 rfl rfl ?_))))) (fun c25 => (absurd (Nat.le_refl 20) c25)))))
      refine ⟨rfl, ?_, fun c hc => by rw [putR_oc (by omega), wr_oc (by omega)]⟩
      refine hg.suk _ _ _ ?_ ?_ ?_ ?_ ?_ ?_ ?_
      · rintro k (rfl | rfl | rfl | rfl | rfl) <;> rw [putR_oc (by omega), wr_oi (by omega)]
      · rintro c (rfl | rfl | rfl | rfl | rfl) <;> rw [putR_oc (by omega), wr_oc (by omega)]
      · refine stM_congr h6 (hu2 m (by omega)) (fun j hj => ?_)
        rw [putR_in hj]
      · rw [putR_oc (by omega), wr_s]
      · intro k hk
        rw [putR_oc (by omega), wr_oc (by omega)]
        exact hu2 k (by have hk : k < m := hk; omega)
      · rw [putR_oc (by omega), wr_oi (by omega)]; exact hk
      · intro k hk
        rw [putR_oc (by omega), wr_oc (by omega)]
        exact hk2 k hk
  · refine (ex_bipush (v := (-2)) dX9_undo_7 rfl (ex_ri dX9_undo_9 rfl rfl (⟨by simp [d_undo, c4], by simp only [d_undo, c4, if_true]; exact hg, fun _ _ => rfl⟩)))
theorem r_keep {sh : Sh} {Mr : MR} {B : Nat} (hB : MD sh Mr B) (M : MM) (g : Sg) (hg : RM B M g) (hv : sgV g) : CtI mX9_keep [.ref B] sh Mr M (PM B M (d_keep g)) := by
  have h6 := hv.1.1.1
  have h8 := hv.2.2.2.1.1
  obtain ⟨h1, h2, h3, h4, h5, ⟨hu, hu2⟩, ⟨hk, hk2⟩, h7⟩ := id hg
  refine ct_of (mi := mX9_keep) (ls := [some (.ref B)]) rfl rfl (Nat.le_of_ble_eq_true rfl) rfl ?_
  refine (ex_al0 dX9_keep_0 (ex_getI dX9_keep_1 flX9_152 (md_sh hB) (ex_top (hk) (ex_iconst (v := nI 2) dX9_keep_4 rfl (ex_icmp_neN (tgt := 11) dX9_keep_5 rfl (by omega) (by omega) (fun c5 => ?_) (fun c5 => ?_))))))
  · have hd : d_keep g = (nI (g.2.2.2.1.1 + 1), (g.1, g.2.1, g.2.2.1, (g.2.2.2.1.1 + 1, fun k => if k = g.2.2.2.1.1 then g.2.1 else g.2.2.2.1.2 k), g.2.2.2.2)) := by simp [d_keep, c5]
    rw [hd]
    refine (ex_al0 dX9_keep_11 (ex_getR dX9_keep_12 flX9_25 (md_sh hB) (md_r10 hB) (ex_bipush (v := nI 20) dX9_keep_15 rfl (ex_al0 dX9_keep_17 (ex_getI dX9_keep_18 flX9_152 (md_sh hB) (ex_top (hk) (ex_imulN dX9_keep_21 (ex_al0 dX9_keep_22 (ex_getR dX9_keep_23 flX9_19 (md_sh hB) (md_r6 hB) (ex_bipush (v := nI 20) dX9_keep_26 rfl (ex_SV4 dX9_keep_28 lkX9_145 ⟨(Nat.le_of_ble_eq_true rfl), (Nat.le_of_ble_eq_true rfl)⟩ ⟨Nat.le_refl _, Nat.le_refl _⟩ (Nat.le_of_ble_eq_true rfl) (m_put (B + 6) (B + 4) 40 20 (20 * g.2.2.2.1.1) 20 (md_a10 hB) (md_a6 hB) (by omega) (by omega) (by omega) (by omega) (by omega) M) (fun M28 h28 => ?_))))))))))))
    subst h28
    refine (ex_al0 dX9_keep_31 (ex_dupR dX9_keep_32 (ex_getI dX9_keep_33 flX9_152 (md_sh hB) (ex_top (y := nI (g.2.2.2.1.1)) (by rw [putR_oc (by omega)]; exact hk) (ex_iconst (v := nI 1) dX9_keep_36 rfl (ex_iaddN dX9_keep_37 (ex_putI dX9_keep_38 (fpX9_152 _) (md_sh hB) (ex_al0 dX9_keep_41 (ex_getI dX9_keep_42 flX9_152 (md_sh hB) (ex_top (wr_s) (ex_ri dX9_keep_45 rfl rfl ?_)))))))))))
    refine ⟨rfl, ?_, fun c hc => by rw [wr_oc (by omega), putR_oc (by omega)]⟩
    refine hg.suk _ _ _ ?_ ?_ ?_ ?_ ?_ wr_s ?_
    · rintro k (rfl | rfl | rfl | rfl | rfl) <;> rw [wr_oi (by omega), putR_oc (by omega)]
    · rintro c (rfl | rfl | rfl | rfl | rfl) <;> rw [wr_oc (by omega), putR_oc (by omega)]
    · rw [wr_oc (by omega), putR_oc (by omega)]; exact h5
    · rw [wr_oi (by omega), putR_oc (by omega)]; exact hu
    · rw [wr_oc (by omega), putR_oc (by omega)]; exact hu2
    · intro k hkk
      have hkk : k < g.2.2.2.1.1 + 1 := hkk
      rw [wr_oc (by omega)]
      by_cases e : k = g.2.2.2.1.1
      · subst e
        simp only [if_true]
        exact stM_congr h6 h5 (fun j hj => by rw [putR_in hj, Nat.zero_add])
      · simp only [if_neg e]
        exact stM_congr h6 (hk2 k (by omega)) (fun j hj => by rw [putR_out (by omega)])
  · refine (ex_bipush (v := (-3)) dX9_keep_8 rfl (ex_ri dX9_keep_10 rfl rfl (⟨by simp [d_keep, c5], by simp only [d_keep, c5, if_true]; exact hg, fun _ _ => rfl⟩)))
theorem r_back {sh : Sh} {Mr : MR} {B : Nat} (hB : MD sh Mr B) (M : MM) (g : Sg) (hg : RM B M g) (hv : sgV g) : CtI mX9_back [.ref B] sh Mr M (PM B M (d_back g)) := by
  have h6 := hv.1.1.1
  have h8 := hv.2.2.2.1.1
  obtain ⟨h1, h2, h3, h4, h5, ⟨hu, hu2⟩, ⟨hk, hk2⟩, h7⟩ := id hg
  refine ct_of (mi := mX9_back) (ls := [some (.ref B), none]) rfl rfl (Nat.le_of_ble_eq_true rfl) rfl ?_
  refine (ex_al0 dX9_back_0 (ex_getI dX9_back_1 flX9_152 (md_sh hB) (ex_top (hk) (ex_if_neN (tgt := 10) dX9_back_4 rfl (by omega) (fun c4 => ?_) (fun c4 => ?_)))))
  · have hd : d_back g = (nI (g.2.2.2.1.1 - 1), (g.1, g.2.2.2.1.2 (g.2.2.2.1.1 - 1), (0, g.2.2.1.2), (g.2.2.2.1.1 - 1, g.2.2.2.1.2), g.2.2.2.2)) := by simp [d_back, c4]
    rw [hd]
    generalize hm : g.2.2.2.1.1 - 1 = m
    refine (ex_al0 dX9_back_10 (ex_dupR dX9_back_11 (ex_getI dX9_back_12 flX9_152 (md_sh hB) (ex_top (hk) (ex_iconst (v := nI 1) dX9_back_15 rfl (ex_isubN dX9_back_16 (by omega) (ex_top (y := nI (m)) (by rw [hm]) (ex_putI dX9_back_17 (fpX9_152 _) (md_sh hB) (ex_iconst (v := nI 0) dX9_back_20 rfl (ex_is1 dX9_back_21 (Nat.le_of_ble_eq_true rfl) rfl ?_))))))))))
    refine ex_for (I := fun i ls M' => ls = [some (.ref B), some (.int (nI i))] ∧ M' = putR (wr M B 9 (nI m)) (B + 4) 0 (fun j => M (B + 6) (20 * m + j)) i) 20 ?_ ?_ 0 _ _ (Nat.zero_le _) ⟨rfl, putR_0.symm⟩
    · intro i ls M' hi h ih
      obtain ⟨rfl, rfl⟩ := h
      refine (ex_il1 dX9_back_22 (ex_bipush (v := nI 20) dX9_back_23 rfl (ex_icmp_geN (tgt := 54) dX9_back_25 rfl (by omega) (by omega) (fun c25 => (absurd c25 (by omega))) (fun c25 => (ex_al0 dX9_back_28 (ex_getR dX9_back_29 flX9_19 (md_sh hB) (md_r6 hB) (ex_il1 dX9_back_32 (ex_al0 dX9_back_33 (ex_getR dX9_back_34 flX9_25 (md_sh hB) (md_r10 hB) (ex_bipush (v := nI 20) dX9_back_37 rfl (ex_al0 dX9_back_39 (ex_getI dX9_back_40 flX9_152 (md_sh hB) (ex_top (y := nI (m)) (by rw [putR_oc (by omega), wr_s]) (ex_imulN dX9_back_43 (ex_il1 dX9_back_44 (ex_iaddN dX9_back_45 (ex_ildN dX9_back_46 (md_a10 hB) (by omega) (by omega) (ex_top (y := (M (B + 6) (20 * m + i))) (by rw [putR_oc (by omega), wr_oc (by omega)]) (ex_istN dX9_back_47 (md_a6 hB) (by omega) (by omega) (ex_inc1 dX9_back_48 (Nat.le_of_ble_eq_true rfl) rfl (inc1 _) (ex_goto (tgt := 22) dX9_back_51 rfl ?_)))))))))))))))))))))
      refine ih _ _ ⟨rfl, ?_⟩
      have := putR_s (M := wr M B 9 (nI m)) (c := B + 4) (fr := 0) (f := fun j => M (B + 6) (20 * m + j)) (n := i)
      rw [Nat.zero_add] at this
      exact this
    · intro ls M' h
      obtain ⟨rfl, rfl⟩ := h
      refine (ex_il1 dX9_back_22 (ex_bipush (v := nI 20) dX9_back_23 rfl (ex_icmp_geN (tgt := 54) dX9_back_25 rfl (by omega) (by omega) (fun c25 => (ex_al0 dX9_back_54 (ex_iconst (v := nI 0) dX9_back_55 rfl (ex_putI dX9_back_56 (fpX9_149 _) (md_sh hB) (ex_al0 dX9_back_59 (ex_getI dX9_back_60 flX9_152 (md_sh hB) (ex_top (y := nI (m)) (by rw [wr_oi (by omega), putR_oc (by omega), wr_s]) (ex_ri dX9_back_63 rfl rfl ?_)))))))) (fun c25 => (absurd (Nat.le_refl 20) c25)))))
      refine ⟨rfl, ?_, fun c hc => by rw [wr_oc (by omega), putR_oc (by omega), wr_oc (by omega)]⟩
      refine hg.suk _ _ _ ?_ ?_ ?_ ?_ ?_ ?_ ?_
      · rintro k (rfl | rfl | rfl | rfl | rfl) <;> rw [wr_oi (by omega), putR_oc (by omega), wr_oi (by omega)]
      · rintro c (rfl | rfl | rfl | rfl | rfl) <;> rw [wr_oc (by omega), putR_oc (by omega), wr_oc (by omega)]
      · rw [wr_oc (by omega)]
        refine stM_congr h6 (hk2 m (by omega)) (fun j hj => ?_)
        rw [putR_in hj]
      · rw [wr_s]
      · intro k hk
        exact absurd hk (Nat.not_lt_zero k)
      · rw [wr_oi (by omega), putR_oc (by omega), wr_s]
      · intro k hk
        rw [wr_oc (by omega), putR_oc (by omega), wr_oc (by omega)]
        exact hk2 k (by have hk : k < m := hk; omega)
  · refine (ex_bipush (v := (-2)) dX9_back_7 rfl (ex_ri dX9_back_9 rfl rfl (⟨by simp [d_back, c4], by simp only [d_back, c4, if_true]; exact hg, fun _ _ => rfl⟩)))
