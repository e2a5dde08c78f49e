/-! the reference: who is behind, who shines, the paint -/
theorem bset_t {p : Nat → Bool} {n : Nat} (h : p n = true) : bset p n ||| (nI 1 <<< (nI n &&& 31)) = bset p (n + 1) := by
  rw [← bset_or, if_pos h]
theorem bset_f {p : Nat → Bool} {n : Nat} (h : p n = false) : bset p n ||| nI 0 = bset p (n + 1) := by
  rw [← bset_or, if_neg (by rw [h]; decide)]
def pay (arr : Nat → Int32) (lim : Int32) (i : Nat) : Bool := decide (arr i ≤ lim)
/-- the reference's told tenants are t -/
def TdM (B : Nat) (M : MM) (t : Td) : Prop := M B 0 = nI t.1 ∧ t.1 ≤ 6 ∧ ∀ i, i < t.1 → M (B + 1) (3 * i) = nI (t.2.1 i) ∧ t.2.1 i < 4 ∧ M (B + 1) (3 * i + 1) = t.2.2.1 i ∧ M (B + 1) (3 * i + 2) = nI (t.2.2.2 i) ∧ t.2.2.2 i < 4
/-- what stands in the reference's row 'now' -/
def NowM (B : Nat) (M : MM) (n : Nat) (p : Pl) : Prop := M (B + 14) 0 = nI p.1 ∧ p.1 < 2 ^ 30 ∧ ∀ i, i < n → M (B + 14) (8 + i) = nI (p.2.1 i) ∧ p.2.1 i < 24 ∧ M (B + 14) (14 + i) = nI (p.2.2 i) ∧ p.2.2 i ≤ 12
theorem m_behindNow {sh : Sh} {Mr : MR} {B : Nat} (hB : MD sh Mr B) (M : MM) (n : Nat) (arr : Nat → Int32) (h0 : M B 0 = nI n) (hn : n ≤ 6) (ha : ∀ i, i < n → M (B + 14) (2 + i) = arr i) : CtP mX9_behindNow [.ref B] sh Mr M (bset (fun i => !pay arr (M B 5) i) n) := by
  refine ct_of (mi := mX9_behindNow) (ls := [some (.ref B), none, none]) rfl rfl (Nat.le_of_ble_eq_true rfl) rfl ?_
  refine (ex_iconst (v := nI 0) dX9_behindNow_0 rfl (ex_is1 dX9_behindNow_1 (Nat.le_of_ble_eq_true rfl) rfl (ex_iconst (v := nI 0) dX9_behindNow_2 rfl (ex_is2 dX9_behindNow_3 (Nat.le_of_ble_eq_true rfl) rfl ?_))))
  refine ex_for (I := fun i ls M' => ls = [some (.ref B), some (.int (bset (fun i => !pay arr (M B 5) i) i)), some (.int (nI i))] ∧ M' = M) n ?_ ?_ 0 _ _ (Nat.zero_le _) ⟨rfl, rfl⟩
  · intro i ls M' hi h ih
    obtain ⟨rfl, rfl⟩ := h
    refine (ex_il2 dX9_behindNow_4 (ex_al0 dX9_behindNow_5 (ex_getI dX9_behindNow_6 flX9_85 (md_sh hB) (ex_top (h0) (ex_icmp_geN (tgt := 43) dX9_behindNow_9 rfl (by omega) (by omega) (fun c9 => (absurd c9 (by omega))) (fun c9 => (ex_il1 dX9_behindNow_12 (ex_al0 dX9_behindNow_13 (ex_getR dX9_behindNow_14 flX9_49 (md_sh hB) (md_r24 hB) (ex_iconst (v := nI 2) dX9_behindNow_17 rfl (ex_il2 dX9_behindNow_18 (ex_iaddN dX9_behindNow_19 (ex_ildN dX9_behindNow_20 (md_a24 hB) (by omega) (by omega) (ex_top (ha i hi) (ex_al0 dX9_behindNow_21 (ex_getI dX9_behindNow_22 flX9_142 (md_sh hB) (ex_icmp_le (tgt := 34) dX9_behindNow_25 rfl (fun c25 => ?_) (fun c25 => ?_))))))))))))))))))
    · refine (ex_iconst (v := nI 0) dX9_behindNow_34 rfl (ex_ior dX9_behindNow_35 (ex_top (bset_f (by simp [pay, c25])) (ex_is1 dX9_behindNow_36 (Nat.le_of_ble_eq_true rfl) rfl (ex_inc2 dX9_behindNow_37 (Nat.le_of_ble_eq_true rfl) rfl (inc1 _) (ex_goto (tgt := 4) dX9_behindNow_40 rfl ?_))))))
      exact ih _ _ ⟨rfl, rfl⟩
    · refine (ex_iconst (v := nI 1) dX9_behindNow_28 rfl (ex_il2 dX9_behindNow_29 (ex_ishl dX9_behindNow_30 (ex_goto (tgt := 35) dX9_behindNow_31 rfl (ex_ior dX9_behindNow_35 (ex_top (bset_t (by simp [pay, c25])) (ex_is1 dX9_behindNow_36 (Nat.le_of_ble_eq_true rfl) rfl (ex_inc2 dX9_behindNow_37 (Nat.le_of_ble_eq_true rfl) rfl (inc1 _) (ex_goto (tgt := 4) dX9_behindNow_40 rfl ?_)))))))))
      exact ih _ _ ⟨rfl, rfl⟩
  · intro ls M' h
    obtain ⟨rfl, rfl⟩ := h
    refine (ex_il2 dX9_behindNow_4 (ex_al0 dX9_behindNow_5 (ex_getI dX9_behindNow_6 flX9_85 (md_sh hB) (ex_top (h0) (ex_icmp_geN (tgt := 43) dX9_behindNow_9 rfl (by omega) (by omega) (fun c9 => (ex_il1 dX9_behindNow_43 (ex_ri dX9_behindNow_44 rfl rfl (⟨rfl, rfl⟩)))) (fun c9 => (absurd (Nat.le_refl n) c9)))))))
/-- the rows 'now' and 'out' as things stand -/
def asIs (B n : Nat) (M : MM) : MM := wr (putR M (B + 14) 0 (M (B + 4)) 20) B 25 (bset (fun i => !pay (fun i => M (B + 4) (2 + i)) (M B 5) i) n)
theorem m_asItIs {sh : Sh} {Mr : MR} {B : Nat} (hB : MD sh Mr B) (M : MM) (n : Nat) (h0 : M B 0 = nI n) (hn : n ≤ 6) : CtV mX9_asItIs [.ref B] sh Mr M (fun M' => M' = asIs B n M) := by
  refine ct_of (mi := mX9_asItIs) (ls := [some (.ref B)]) rfl rfl (Nat.le_of_ble_eq_true rfl) rfl ?_
  refine (ex_al0 dX9_asItIs_0 (ex_getR dX9_asItIs_1 flX9_49 (md_sh hB) (md_r24 hB) (ex_iconst (v := nI 0) dX9_asItIs_4 rfl (ex_al0 dX9_asItIs_5 (ex_getR dX9_asItIs_6 flX9_19 (md_sh hB) (md_r6 hB) (ex_bipush (v := nI 20) dX9_asItIs_9 rfl (ex_SV4 dX9_asItIs_11 lkX9_145 ⟨(Nat.le_of_ble_eq_true rfl), (Nat.le_of_ble_eq_true rfl)⟩ ⟨Nat.le_refl _, Nat.le_refl _⟩ (Nat.le_of_ble_eq_true rfl) (m_put (B + 14) (B + 4) 20 20 0 20 (md_a24 hB) (md_a6 hB) (by omega) (by omega) (by omega) (by omega) (by omega) M) (fun M11 h11 => ?_))))))))
  subst h11
  refine (ex_al0 dX9_asItIs_14 (ex_al0 dX9_asItIs_15 (ex_VP0 dX9_asItIs_16 lkX9_158 (md_sh hB) ⟨_, _, rfl⟩ ⟨(Nat.le_of_ble_eq_true rfl), (Nat.le_of_ble_eq_true rfl)⟩ ⟨Nat.le_refl _, Nat.le_refl _⟩ (Nat.le_of_ble_eq_true rfl) (m_behindNow hB _ n (fun i => M (B + 4) (2 + i)) (by rw [putR_oc (by omega)]; exact h0) hn (fun i hi => by have h := putR_in (M := M) (c := B + 14) (fr := 0) (f := M (B + 4)) (n := 20) (j := 2 + i) (by omega); rw [Nat.zero_add] at h; exact h)) (ex_putI dX9_asItIs_19 (fpX9_161 _) (md_sh hB) (ex_rv dX9_asItIs_22 rfl (by rw [putR_oc (show B ≠ B + 14 by omega)]; rfl))))))
theorem m_isProudest {sh : Sh} {Mr : MR} {B : Nat} (hB : MD sh Mr B) (M : MM) (t : Td) (ht : TdM B M t) (i : Nat) (hi : i < t.1) : CtP mX9_isProudest [.ref B, .int (nI i)] sh Mr M (bI (proud t i)) := by
  obtain ⟨h0, hn, hr⟩ := ht
  obtain ⟨a1, a2, a3, a4, a5⟩ := hr i hi
  refine ct_of (mi := mX9_isProudest) (ls := [some (.ref B), some (.int (nI i)), none, none]) rfl rfl (Nat.le_of_ble_eq_true rfl) rfl ?_
  refine (ex_iconst (v := nI 1) dX9_isProudest_0 rfl (ex_is2 dX9_isProudest_1 (Nat.le_of_ble_eq_true rfl) rfl (ex_iconst (v := nI 0) dX9_isProudest_2 rfl (ex_is3 dX9_isProudest_3 (Nat.le_of_ble_eq_true rfl) rfl ?_))))
  refine ex_for (I := fun j ls M' => ls = [some (.ref B), some (.int (nI i)), some (.int (bI (allb (fun j => decide (j = i) || (decide (¬ t.2.1 j = t.2.1 i) || decide (t.2.2.1 j ≤ t.2.2.1 i))) j))), some (.int (nI j))] ∧ M' = M) t.1 ?_ ?_ 0 _ _ (Nat.zero_le _) ⟨rfl, rfl⟩
  · intro j ls M' hj h ih
    obtain ⟨rfl, rfl⟩ := h
    obtain ⟨b1, b2, b3, b4, b5⟩ := hr j hj
    generalize hp : (fun j => decide (j = i) || (decide (¬ t.2.1 j = t.2.1 i) || decide (t.2.2.1 j ≤ t.2.2.1 i))) = p at ih ⊢
    have hpj : p j = (decide (j = i) || (decide (¬ t.2.1 j = t.2.1 i) || decide (t.2.2.1 j ≤ t.2.2.1 i))) := by rw [← hp]
    have J := ih _ _ ⟨rfl, rfl⟩
    have J : EI mX9_isProudest sh Mr (fun x M'' => x = bI (proud t i) ∧ M'' = M') 68 [some (.ref B), some (.int (nI i)), some (.int (bI (allb p j))), some (.int (nI j))] [.int (bI (allb p (j + 1)))] M' := by
      refine (ex_is2 dX9_isProudest_68 (Nat.le_of_ble_eq_true rfl) rfl (ex_inc3 dX9_isProudest_69 (Nat.le_of_ble_eq_true rfl) rfl (inc1 _) (ex_goto (tgt := 4) dX9_isProudest_72 rfl ?_)))
      exact J
    refine (ex_il3 dX9_isProudest_4 (ex_al0 dX9_isProudest_5 (ex_getI dX9_isProudest_6 flX9_85 (md_sh hB) (ex_top (h0) (ex_icmp_geN (tgt := 75) dX9_isProudest_9 rfl (by omega) (by omega) (fun c9 => (absurd c9 (by omega))) (fun c9 => (ex_il2 dX9_isProudest_12 (ex_ifB_eq (tgt := 67) dX9_isProudest_13 rfl (fun c13 => ?_) (fun c13 => ?_)))))))))
    · refine (ex_iconst (v := nI 0) dX9_isProudest_67 rfl ?_)
      exact ex_top (bI_ff (by rw [show allb p (j + 1) = (allb p j && p j) from rfl, c13]; rfl)) J
    · refine (ex_il3 dX9_isProudest_16 (ex_il1 dX9_isProudest_17 (ex_icmp_eqN (tgt := 63) dX9_isProudest_18 rfl (by omega) (by omega) (fun c18 => ?_) (fun c18 => ?_))))
      · refine (ex_iconst (v := nI 1) dX9_isProudest_63 rfl (ex_goto (tgt := 68) dX9_isProudest_64 rfl ?_))
        exact ex_top (bI_tt (by rw [show allb p (j + 1) = (allb p j && p j) from rfl, c13, hpj]; simp [c18])) J
      · refine (ex_al0 dX9_isProudest_21 (ex_getR dX9_isProudest_22 flX9_7 (md_sh hB) (md_r1 hB) (ex_iconst (v := nI 3) dX9_isProudest_25 rfl (ex_il3 dX9_isProudest_26 (ex_imulN dX9_isProudest_27 (ex_ildN dX9_isProudest_28 (md_a1 hB) (by omega) (by omega) (ex_top (b1) (ex_al0 dX9_isProudest_29 (ex_getR dX9_isProudest_30 flX9_7 (md_sh hB) (md_r1 hB) (ex_iconst (v := nI 3) dX9_isProudest_33 rfl (ex_il1 dX9_isProudest_34 (ex_imulN dX9_isProudest_35 (ex_ildN dX9_isProudest_36 (md_a1 hB) (by omega) (by omega) (ex_top (a1) (ex_icmp_neN (tgt := 63) dX9_isProudest_37 rfl (by omega) (by omega) (fun c37 => ?_) (fun c37 => ?_))))))))))))))))
        · refine (ex_iconst (v := nI 1) dX9_isProudest_63 rfl (ex_goto (tgt := 68) dX9_isProudest_64 rfl ?_))
          exact ex_top (bI_tt (by rw [show allb p (j + 1) = (allb p j && p j) from rfl, c13, hpj]; simp [c37])) J
        · refine (ex_al0 dX9_isProudest_40 (ex_getR dX9_isProudest_41 flX9_7 (md_sh hB) (md_r1 hB) (ex_iconst (v := nI 3) dX9_isProudest_44 rfl (ex_il3 dX9_isProudest_45 (ex_imulN dX9_isProudest_46 (ex_iconst (v := nI 1) dX9_isProudest_47 rfl (ex_iaddN dX9_isProudest_48 (ex_ildN dX9_isProudest_49 (md_a1 hB) (by omega) (by omega) (ex_top (b3) (ex_al0 dX9_isProudest_50 (ex_getR dX9_isProudest_51 flX9_7 (md_sh hB) (md_r1 hB) (ex_iconst (v := nI 3) dX9_isProudest_54 rfl (ex_il1 dX9_isProudest_55 (ex_imulN dX9_isProudest_56 (ex_iconst (v := nI 1) dX9_isProudest_57 rfl (ex_iaddN dX9_isProudest_58 (ex_ildN dX9_isProudest_59 (md_a1 hB) (by omega) (by omega) (ex_top (a3) (ex_icmp_gt (tgt := 67) dX9_isProudest_60 rfl (fun c60 => ?_) (fun c60 => ?_))))))))))))))))))))
          · refine (ex_iconst (v := nI 0) dX9_isProudest_67 rfl ?_)
            exact ex_top (bI_ff (by rw [show allb p (j + 1) = (allb p j && p j) from rfl, c13, hpj]; simp [c18, c37, i_nle c60])) J
          · refine (ex_iconst (v := nI 1) dX9_isProudest_63 rfl (ex_goto (tgt := 68) dX9_isProudest_64 rfl ?_))
            exact ex_top (bI_tt (by rw [show allb p (j + 1) = (allb p j && p j) from rfl, c13, hpj]; simp [i_nlt c60])) J
  · intro ls M' h
    obtain ⟨rfl, rfl⟩ := h
    refine (ex_il3 dX9_isProudest_4 (ex_al0 dX9_isProudest_5 (ex_getI dX9_isProudest_6 flX9_85 (md_sh hB) (ex_top (h0) (ex_icmp_geN (tgt := 75) dX9_isProudest_9 rfl (by omega) (by omega) (fun c9 => (ex_il2 dX9_isProudest_75 (ex_rb dX9_isProudest_76 rfl (⟨rfl, rfl⟩)))) (fun c9 => (absurd (Nat.le_refl t.1) c9)))))))
theorem m_shines {sh : Sh} {Mr : MR} {B : Nat} (hB : MD sh Mr B) (M : MM) (t : Td) (ht : TdM B M t) (i b night : Nat) (hi : i < t.1) (hb : b < 24) (hn : M (B + 14) 0 = nI night) (hn2 : night < 2 ^ 30) : CtP mX9_shines [.ref B, .int (nI i), .int (nI b)] sh Mr M (bI (kOK t night i b)) := by
  have hr := ht.2.2 i hi
  have h6 := ht.2.1
  obtain ⟨a1, a2, a3, a4, a5⟩ := hr
  refine ct_of (mi := mX9_shines) (ls := [some (.ref B), some (.int (nI i)), some (.int (nI b)), none]) rfl rfl (Nat.le_of_ble_eq_true rfl) rfl ?_
  have J : EI mX9_shines sh Mr (fun x M'' => x = bI (kOK t night i b) ∧ M'' = M) 16 [some (.ref B), some (.int (nI i)), some (.int (nI b)), none] [.int (bI (decide (night % 2 = 0)))] M := by
    refine (ex_is3 dX9_shines_16 (Nat.le_of_ble_eq_true rfl) rfl (ex_al0 dX9_shines_17 (ex_getR dX9_shines_18 flX9_7 (md_sh hB) (md_r1 hB) (ex_iconst (v := nI 3) dX9_shines_21 rfl (ex_il1 dX9_shines_22 (ex_imulN dX9_shines_23 (ex_iconst (v := nI 2) dX9_shines_24 rfl (ex_iaddN dX9_shines_25 (ex_ildN dX9_shines_26 (md_a1 hB) (by omega) (by omega) (ex_top (a4) ?_))))))))))
    have hk : t.2.2.2 i = 0 ∨ t.2.2.2 i = 1 ∨ t.2.2.2 i = 2 ∨ t.2.2.2 i = 3 := by omega
    rcases hk with hk | hk | hk | hk
    · rw [hk]
      refine ex_tableIn (tgt := 52) dX9_shines_27 (by decide) (by decide) rfl rfl ?_
      refine (ex_iconst (v := nI 1) dX9_shines_52 rfl (ex_ri dX9_shines_53 rfl rfl (⟨by simp [kOK, hk, bI], rfl⟩)))
    · rw [hk]
      refine ex_tableIn (tgt := 54) dX9_shines_27 (by decide) (by decide) rfl rfl ?_
      refine (ex_il3 dX9_shines_54 (ex_rb dX9_shines_55 rfl (⟨by simp [kOK, hk], rfl⟩)))
    · rw [hk]
      refine ex_tableIn (tgt := 56) dX9_shines_27 (by decide) (by decide) rfl rfl ?_
      refine (ex_il2 dX9_shines_56 (ex_iconst (v := nI 2) dX9_shines_57 rfl (ex_iremN dX9_shines_58 ⟨by omega, by omega, by omega⟩ (ex_if_neN (tgt := 66) dX9_shines_59 rfl (by omega) (fun c59 => ?_) (fun c59 => ?_)))))
      · refine (ex_iconst (v := nI 0) dX9_shines_66 rfl (ex_il3 dX9_shines_67 (ex_icmp_ne (tgt := 75) dX9_shines_68 rfl (fun c68 => ?_) (fun c68 => ?_))))
        · refine (ex_iconst (v := nI 0) dX9_shines_75 rfl (ex_ri dX9_shines_76 rfl rfl (⟨by revert c68; by_cases h : night % 2 = 0 <;> simp [kOK, hk, bI, h, c59], rfl⟩)))
        · refine (ex_iconst (v := nI 1) dX9_shines_71 rfl (ex_goto (tgt := 76) dX9_shines_72 rfl (ex_ri dX9_shines_76 rfl rfl (⟨by revert c68; by_cases h : night % 2 = 0 <;> simp [kOK, hk, bI, h, c59, nI_0]; intro e; exact absurd e (by decide), rfl⟩))))
      · refine (ex_iconst (v := nI 1) dX9_shines_62 rfl (ex_goto (tgt := 67) dX9_shines_63 rfl (ex_il3 dX9_shines_67 (ex_icmp_ne (tgt := 75) dX9_shines_68 rfl (fun c68 => ?_) (fun c68 => ?_)))))
        · refine (ex_iconst (v := nI 0) dX9_shines_75 rfl (ex_ri dX9_shines_76 rfl rfl (⟨by revert c68; by_cases h : night % 2 = 0 <;> simp [kOK, hk, bI, h, c59], rfl⟩)))
        · refine (ex_iconst (v := nI 1) dX9_shines_71 rfl (ex_goto (tgt := 76) dX9_shines_72 rfl (ex_ri dX9_shines_76 rfl rfl (⟨by revert c68; by_cases h : night % 2 = 0 <;> simp [kOK, hk, bI, h, c59, nI_0], rfl⟩))))
    · rw [hk]
      refine ex_tableOut (tgt := 77) dX9_shines_27 (by decide) rfl ?_
      refine (ex_al0 dX9_shines_77 (ex_il1 dX9_shines_78 (ex_VP1 dX9_shines_79 lkX9_164 (md_sh hB) ⟨_, _, rfl⟩ ⟨(Nat.le_of_ble_eq_true rfl), (Nat.le_of_ble_eq_true rfl)⟩ ⟨Nat.le_refl _, Nat.le_refl _⟩ (Nat.le_of_ble_eq_true rfl) (m_isProudest hB M t ht i hi) (ex_rb dX9_shines_82 rfl (⟨by simp [kOK, hk], rfl⟩)))))
  refine (ex_al0 dX9_shines_0 (ex_getR dX9_shines_1 flX9_49 (md_sh hB) (md_r24 hB) (ex_iconst (v := nI 0) dX9_shines_4 rfl (ex_ildN dX9_shines_5 (md_a24 hB) (by omega) (by omega) (ex_top (hn) (ex_iconst (v := nI 2) dX9_shines_6 rfl (ex_iremN dX9_shines_7 ⟨by omega, by omega, by omega⟩ (ex_if_neN (tgt := 15) dX9_shines_8 rfl (by omega) (fun c8 => ?_) (fun c8 => ?_)))))))))
  · refine (ex_iconst (v := nI 0) dX9_shines_15 rfl ?_)
    exact ex_top (bI_ff (by simp [c8])) J
  · refine (ex_iconst (v := nI 1) dX9_shines_11 rfl (ex_goto (tgt := 16) dX9_shines_12 rfl ?_))
    exact ex_top (bI_tt (by simp [c8])) J
