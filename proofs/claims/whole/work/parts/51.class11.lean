/-! the class: acts -/
theorem RX.act {M M' : MM} {L : Nat} {g : Sg} (hg : RX M L g) (hL : 5 ≤ L ∧ L ≤ 15) {x : St} (hx : stX M' 25 g.1.1.1 x) (hu : PkX M' 33 8 g.1.1.1 (rem g.2.2.1 g.2.1)) (hc : ∀ c, (c < 25 ∨ 67 ≤ c) → M' c = M c) : RX M' L (act g x) := by
  obtain ⟨h1, h2, h3, h4, h5, h6⟩ := hg
  exact ⟨h1.of (fun c e1 e2 => hc c (by omega)), hx, hu, h4.of (fun c e1 e2 => hc c (by omega)), h5.of (fun c e1 e2 => hc c (by omega)), h6.of (hc 1 (by omega)) (hc 2 (by omega))⟩
theorem x_put33 {sh : Sh} {Mr : MR} {L D : Nat} (hG : GX sh Mr L D) (M : MM) (g : Sg) (hg : RX M L g) : CtV mX4_put [.ref 33, .ref 25] sh Mr M (fun M' => (∀ c, c < 33 ∨ 67 ≤ c → M' c = M c) ∧ PkX M' 33 8 g.1.1.1 (rem g.2.2.1 g.2.1)) := x_put (pi33 hG) (sa25 hG) (by omega) (by omega) (by omega) M g.1.1.1 hg.1.1.2.1 _ hg.2.2.1 _ hg.2.1
theorem s_tenant {sh : Sh} {Mr : MR} {L D : Nat} (hG : GX sh Mr L D) (M : MM) (g : Sg) (hg : RX M L g) (hv : sgV g) (i w : Int32) : CtI mX8_tenant [.ref 0, .int i, .int w] sh Mr M (PX L M (d_tenant g i w)) := by
  have h6 := hv.1.1.1
  refine ct_of (mi := mX8_tenant) (ls := [some (.ref 0), some (.int i), some (.int w)]) rfl rfl (Nat.le_of_ble_eq_true rfl) rfl ?_
  refine (ex_al0 dX8_tenant_0 (ex_il1 dX8_tenant_1 (ex_VP1 dX8_tenant_2 lkX8_114 (gx0 hG) ⟨_, _, rfl⟩ ⟨(Nat.le_of_ble_eq_true rfl), (Nat.le_of_ble_eq_true rfl)⟩ ⟨Nat.le_refl _, Nat.le_refl _⟩ (Nat.le_of_ble_eq_true rfl) (x_isT hG M g hg i) (ex_ifB_ne (tgt := 10) dX8_tenant_5 rfl (fun c5 => ?_) (fun c5 => ?_)))))
  · obtain ⟨i, hi, rfl⟩ := isT_nat hv c5
    obtain ⟨a1, -, a3, a4, -⟩ := hg.1.1.2.2 i hi
    obtain ⟨b1, b2, b3⟩ := hg.2.1.2.2 i hi
    have hcs : cN (nI i) = i := cN_nI (by omega)
    by_cases hw : inB w (nI 0) (nI 6) = true
    · have hd : ∀ k, k ≤ 6 → w = nI k → d_tenant g (nI i) w = (tnV g i k, g) := fun k hk e => by
        unfold d_tenant
        rw [c5, hw, hcs, e, cN_nI (by omega)]
        rfl
      obtain ⟨k, hk, rfl⟩ := inB_nat (by decide) hw
      rw [hd k hk rfl]
      refine (ex_il2 dX8_tenant_10 ?_)
      rcases (show k = 0 ∨ k = 1 ∨ k = 2 ∨ k = 3 ∨ k = 4 ∨ k = 5 ∨ k = 6 by omega) with rfl | rfl | rfl | rfl | rfl | rfl | rfl
      · refine ex_tableIn (tgt := 52) (off := 41) dX8_tenant_11 (by decide) (by decide) (by decide) rfl ?_
        refine (ex_al0 dX8_tenant_52 (ex_getR dX8_tenant_53 flX8_26 (gx0 hG) (gr0_2 hG) (ex_getR dX8_tenant_56 flX8_117 (la_sh (laL hG)) (la_r1 (laL hG)) (ex_il1 dX8_tenant_59 (ex_ildN dX8_tenant_60 (la_a1 (laL hG)) (by omega) (by omega) (ex_top (a1) (ex_ri dX8_tenant_61 rfl rfl (⟨rfl, hg, fun _ _ => rfl⟩))))))))
      · refine ex_tableIn (tgt := 62) (off := 51) dX8_tenant_11 (by decide) (by decide) (by decide) rfl ?_
        refine (ex_al0 dX8_tenant_62 (ex_getR dX8_tenant_63 flX8_36 (gx0 hG) (gr0_4 hG) (ex_getR dX8_tenant_66 flX8_121 (sa_sh (sa25 hG)) (sa_r2 (sa25 hG)) (ex_il1 dX8_tenant_69 (ex_ildN dX8_tenant_70 (sa_a2 (sa25 hG)) (by omega) (by omega) (ex_top (b2) (ex_ri dX8_tenant_71 rfl rfl (⟨rfl, hg, fun _ _ => rfl⟩))))))))
      · refine ex_tableIn (tgt := 72) (off := 61) dX8_tenant_11 (by decide) (by decide) (by decide) rfl ?_
        refine (ex_al0 dX8_tenant_72 (ex_getR dX8_tenant_73 flX8_36 (gx0 hG) (gr0_4 hG) (ex_getR dX8_tenant_76 flX8_124 (sa_sh (sa25 hG)) (sa_r3 (sa25 hG)) (ex_il1 dX8_tenant_79 (ex_ildN dX8_tenant_80 (sa_a3 (sa25 hG)) (by omega) (by omega) (ex_top (b3) (ex_ri dX8_tenant_81 rfl rfl (⟨rfl, hg, fun _ _ => rfl⟩))))))))
      · refine ex_tableIn (tgt := 82) (off := 71) dX8_tenant_11 (by decide) (by decide) (by decide) rfl ?_
        refine (ex_al0 dX8_tenant_82 (ex_getR dX8_tenant_83 flX8_26 (gx0 hG) (gr0_2 hG) (ex_getR dX8_tenant_86 flX8_127 (la_sh (laL hG)) (la_r4 (laL hG)) (ex_il1 dX8_tenant_89 (ex_ildN dX8_tenant_90 (la_a4 (laL hG)) (by omega) (by omega) (ex_top (a3) (ex_ri dX8_tenant_91 rfl rfl (⟨rfl, hg, fun _ _ => rfl⟩))))))))
      · refine ex_tableIn (tgt := 92) (off := 81) dX8_tenant_11 (by decide) (by decide) (by decide) rfl ?_
        refine (ex_al0 dX8_tenant_92 (ex_getR dX8_tenant_93 flX8_26 (gx0 hG) (gr0_2 hG) (ex_getR dX8_tenant_96 flX8_130 (la_sh (laL hG)) (la_r5 (laL hG)) (ex_il1 dX8_tenant_99 (ex_ildN dX8_tenant_100 (la_a5 (laL hG)) (by omega) (by omega) (ex_top (a4) (ex_ri dX8_tenant_101 rfl rfl (⟨rfl, hg, fun _ _ => rfl⟩))))))))
      · refine ex_tableIn (tgt := 102) (off := 91) dX8_tenant_11 (by decide) (by decide) (by decide) rfl ?_
        refine (ex_al0 dX8_tenant_102 (ex_getR dX8_tenant_103 flX8_36 (gx0 hG) (gr0_4 hG) (ex_getR dX8_tenant_106 flX8_133 (sa_sh (sa25 hG)) (sa_r1 (sa25 hG)) (ex_il1 dX8_tenant_109 (ex_ildN dX8_tenant_110 (sa_a1 (sa25 hG)) (by omega) (by omega) (ex_top (b1) (ex_ri dX8_tenant_111 rfl rfl (⟨rfl, hg, fun _ _ => rfl⟩))))))))
      · refine ex_tableIn (tgt := 112) (off := 101) dX8_tenant_11 (by decide) (by decide) (by decide) rfl ?_
        refine (ex_al0 dX8_tenant_112 (ex_getR dX8_tenant_113 flX8_36 (gx0 hG) (gr0_4 hG) (ex_getR dX8_tenant_116 flX8_133 (sa_sh (sa25 hG)) (sa_r1 (sa25 hG)) (ex_il1 dX8_tenant_119 (ex_ildN dX8_tenant_120 (sa_a1 (sa25 hG)) (by omega) (by omega) (ex_top (b1) (ex_al0 dX8_tenant_121 (ex_getR dX8_tenant_122 flX8_26 (gx0 hG) (gr0_2 hG) (ex_getI dX8_tenant_125 flX8_136 (la_sh (laL hG)) (ex_top (hg.1.2.2.2) (ex_icmp_le (tgt := 135) dX8_tenant_128 rfl (fun c128 => ?_) (fun c128 => ?_))))))))))))
        · refine (ex_iconst (v := nI 0) dX8_tenant_135 rfl (ex_ri dX8_tenant_136 rfl rfl (⟨by show nI 0 = bI (!lit g.1 g.2.1 i); unfold lit pay; rw [decide_eq_true c128]; rfl, hg, fun _ _ => rfl⟩)))
        · refine (ex_iconst (v := nI 1) dX8_tenant_131 rfl (ex_goto (tgt := 136) dX8_tenant_132 rfl (ex_ri dX8_tenant_136 rfl rfl (⟨by show nI 1 = bI (!lit g.1 g.2.1 i); unfold lit pay; rw [decide_eq_false c128]; rfl, hg, fun _ _ => rfl⟩))))
    · have hw2 : inB w (nI 0) (nI 6) = false := by simpa using hw
      refine (ex_il2 dX8_tenant_10 ?_)
      refine ex_tableOut (tgt := 137) dX8_tenant_11 ?_ rfl ?_
      · have := hw2
        simp only [inB, Bool.and_eq_false_iff, decide_eq_false_iff_not, i_le_iff] at this
        rw [show (nI 0).toInt = 0 by decide, show (nI 6).toInt = 6 by decide] at this
        omega
      · refine (ex_iconst (v := (-1)) dX8_tenant_137 rfl (ex_ri dX8_tenant_138 rfl rfl (⟨by simp [d_tenant, hw2], hg, fun _ _ => rfl⟩)))
  · refine (ex_iconst (v := (-1)) dX8_tenant_8 rfl (ex_ri dX8_tenant_9 rfl rfl (⟨by simp [d_tenant, c5], hg, fun _ _ => rfl⟩)))
theorem s_pass {sh : Sh} {Mr : MR} {L D : Nat} (hG : GX sh Mr L D) (M : MM) (g : Sg) (hg : RX M L g) (hv : sgV g) (n : Int32) : CtI mX8_pass [.ref 0, .int n] sh Mr M (PX L M (d_pass g n)) := by
  have hL := GL hG
  have h999 := hv.2.1.1
  refine ct_of (mi := mX8_pass) (ls := [some (.ref 0), some (.int n)]) rfl rfl (Nat.le_of_ble_eq_true rfl) rfl ?_
  refine (ex_il1 dX8_pass_0 (ex_iconst (v := nI 1) dX8_pass_1 rfl (ex_bipush (v := nI 30) dX8_pass_2 rfl (ex_SP3 dX8_pass_4 lkX8_103 ⟨(Nat.le_of_ble_eq_true rfl), (Nat.le_of_ble_eq_true rfl)⟩ ⟨Nat.le_refl _, Nat.le_refl _⟩ (Nat.le_of_ble_eq_true rfl) (x_within _ _ _ _ _ _) (ex_ifB_ne (tgt := 12) dX8_pass_7 rfl (fun c7 => ?_) (fun c7 => ?_))))))
  · obtain ⟨k, hk, rfl⟩ := inB_nat (v := n) (b := 30) (by decide) (by simp only [inB, Bool.and_eq_true, decide_eq_true_eq] at c7 ⊢; exact ⟨Int32.le_trans (by decide) c7.1, c7.2⟩)
    have hcs : cN (nI k) = k := cN_nI (by omega)
    refine (ex_al0 dX8_pass_12 (ex_getR dX8_pass_13 flX8_36 (gx0 hG) (gr0_4 hG) (ex_getI dX8_pass_16 flX8_164 (sa_sh (sa25 hG)) (ex_top (hg.2.1.1) (ex_il1 dX8_pass_19 (ex_iaddN dX8_pass_20 (ex_sipush (v := nI 999) dX8_pass_21 rfl (ex_icmp_leN (tgt := 30) dX8_pass_24 rfl (by omega) (by omega) (fun c24 => ?_) (fun c24 => ?_)))))))))
    · have hd : d_pass g (nI k) = (nI (g.2.1.1 + k), act g (goBy g.1 g.2.1 k)) := by simp only [d_pass, c7, hcs, if_true, if_pos c24]
      rw [hd]
      refine (ex_al0 dX8_pass_30 (ex_getR dX8_pass_31 flX8_48 (gx0 hG) (gr0_6 hG) (ex_al0 dX8_pass_34 (ex_getR dX8_pass_35 flX8_36 (gx0 hG) (gr0_4 hG) (ex_VV1 dX8_pass_38 lkX8_167 (pi_sh (pi33 hG)) ⟨_, _, rfl⟩ ⟨(Nat.le_of_ble_eq_true rfl), (Nat.le_of_ble_eq_true rfl)⟩ ⟨Nat.le_refl _, Nat.le_refl _⟩ (Nat.le_of_ble_eq_true rfl) (x_put33 hG M g hg) (fun M38 h38 => ?_))))))
      obtain ⟨f1, f2⟩ := h38
      have ho1 : LdX M38 L g.1 := hg.1.of (fun c e1 e2 => f1 c (by omega))
      have hx1 : stX M38 25 g.1.1.1 g.2.1 := hg.2.1.of (fun c e1 e2 => f1 c (by omega))
      refine (ex_al0 dX8_pass_41 (ex_getR dX8_pass_42 flX8_36 (gx0 hG) (gr0_4 hG) (ex_al0 dX8_pass_45 (ex_getR dX8_pass_46 flX8_26 (gx0 hG) (gr0_2 hG) (ex_il1 dX8_pass_49 (ex_VV2 dX8_pass_50 lkX8_171 (sa_sh (sa25 hG)) ⟨_, _, rfl⟩ ⟨(Nat.le_of_ble_eq_true rfl), (Nat.le_of_ble_eq_true rfl)⟩ ⟨Nat.le_refl _, Nat.le_refl _⟩ (Nat.le_of_ble_eq_true rfl) (x_goBy (sa25 hG) (laL hG) (by omega) M38 g.1 ho1 g.2.1 hx1 k) (fun M50 h50 => ?_)))))))
      obtain ⟨q1, q2⟩ := h50
      refine (ex_al0 dX8_pass_53 (ex_getR dX8_pass_54 flX8_36 (gx0 hG) (gr0_4 hG) (ex_getI dX8_pass_57 flX8_164 (sa_sh (sa25 hG)) (ex_top (q2.1) (ex_ri dX8_pass_60 rfl rfl (⟨rfl, hg.act (by omega) q2 (f2.of (fun c e1 e2 => q1 c (by omega) (by omega))) (fun c hc => (q1 c (by omega) (by omega)).trans (f1 c (by omega))), fun c hc => (q1 c (by omega) (by omega)).trans (f1 c (by omega))⟩))))))
    · have hd : d_pass g (nI k) = (-2, g) := by simp only [d_pass, c7, hcs, if_true, if_neg c24]
      rw [hd]
      refine (ex_bipush (v := (-2)) dX8_pass_27 rfl (ex_ri dX8_pass_29 rfl rfl (⟨rfl, hg, fun _ _ => rfl⟩)))
  · refine (ex_iconst (v := (-1)) dX8_pass_10 rfl (ex_ri dX8_pass_11 rfl rfl (⟨by simp [d_pass, c7], by simp only [d_pass, c7]; exact hg, fun _ _ => rfl⟩)))
theorem s_change {sh : Sh} {Mr : MR} {L D : Nat} (hG : GX sh Mr L D) (M : MM) (g : Sg) (hg : RX M L g) (hv : sgV g) (i j : Int32) : CtI mX8_change [.ref 0, .int i, .int j] sh Mr M (PX L M (d_change g i j)) := by
  have hL := GL hG
  have h6 := hv.1.1.1
  refine ct_of (mi := mX8_change) (ls := [some (.ref 0), some (.int i), some (.int j)]) rfl rfl (Nat.le_of_ble_eq_true rfl) rfl ?_
  refine (ex_al0 dX8_change_0 (ex_il1 dX8_change_1 (ex_VP1 dX8_change_2 lkX8_114 (gx0 hG) ⟨_, _, rfl⟩ ⟨(Nat.le_of_ble_eq_true rfl), (Nat.le_of_ble_eq_true rfl)⟩ ⟨Nat.le_refl _, Nat.le_refl _⟩ (Nat.le_of_ble_eq_true rfl) (x_isT hG M g hg i) (ex_ifB_eq (tgt := 21) dX8_change_5 rfl (fun c5 => ?_) (fun c5 => ?_)))))
  · refine (ex_iconst (v := (-1)) dX8_change_21 rfl (ex_ri dX8_change_22 rfl rfl (⟨by simp [d_change, c5], by simp only [d_change, c5]; exact hg, fun _ _ => rfl⟩)))
  · refine (ex_al0 dX8_change_8 (ex_il2 dX8_change_9 (ex_VP1 dX8_change_10 lkX8_114 (gx0 hG) ⟨_, _, rfl⟩ ⟨(Nat.le_of_ble_eq_true rfl), (Nat.le_of_ble_eq_true rfl)⟩ ⟨Nat.le_refl _, Nat.le_refl _⟩ (Nat.le_of_ble_eq_true rfl) (x_isT hG M g hg j) (ex_ifB_eq (tgt := 21) dX8_change_13 rfl (fun c13 => ?_) (fun c13 => ?_)))))
    · refine (ex_iconst (v := (-1)) dX8_change_21 rfl (ex_ri dX8_change_22 rfl rfl (⟨by simp [d_change, c13], by simp only [d_change, c13, Bool.false_and, Bool.and_false]; exact hg, fun _ _ => rfl⟩)))
    · refine (ex_il1 dX8_change_16 (ex_il2 dX8_change_17 (ex_icmp_ne (tgt := 23) dX8_change_18 rfl (fun c18 => ?_) (fun c18 => ?_))))
      · obtain ⟨a, ha, rfl⟩ := isT_nat hv c5
        obtain ⟨b, hb, rfl⟩ := isT_nat hv c13
        have hca : cN (nI a) = a := cN_nI (by omega)
        have hcb : cN (nI b) = b := cN_nI (by omega)
        have hd : d_change g (nI a) (nI b) = (nI (g.2.1.2.2.2.1 b), act g (g.2.1.1, g.2.1.2.1, g.2.1.2.2.1, swp g.2.1.2.2.2.1 a b, swp g.2.1.2.2.2.2 a b)) := by
          simp only [d_change, c5, c13, hca, hcb, decide_eq_false c18, Bool.not_false, Bool.and_self, if_true]
        rw [hd]
        refine (ex_al0 dX8_change_23 (ex_getR dX8_change_24 flX8_48 (gx0 hG) (gr0_6 hG) (ex_al0 dX8_change_27 (ex_getR dX8_change_28 flX8_36 (gx0 hG) (gr0_4 hG) (ex_VV1 dX8_change_31 lkX8_167 (pi_sh (pi33 hG)) ⟨_, _, rfl⟩ ⟨(Nat.le_of_ble_eq_true rfl), (Nat.le_of_ble_eq_true rfl)⟩ ⟨Nat.le_refl _, Nat.le_refl _⟩ (Nat.le_of_ble_eq_true rfl) (x_put33 hG M g hg) (fun M31 h31 => ?_))))))
        obtain ⟨f1, f2⟩ := h31
        have hx1 : stX M31 25 g.1.1.1 g.2.1 := hg.2.1.of (fun c e1 e2 => f1 c (by omega))
        refine (ex_al0 dX8_change_34 (ex_getR dX8_change_35 flX8_36 (gx0 hG) (gr0_4 hG) (ex_getR dX8_change_38 flX8_121 (sa_sh (sa25 hG)) (sa_r2 (sa25 hG)) (ex_il1 dX8_change_41 (ex_il2 dX8_change_42 (ex_SV3 dX8_change_43 lkX8_181 ⟨(Nat.le_of_ble_eq_true rfl), (Nat.le_of_ble_eq_true rfl)⟩ ⟨Nat.le_refl _, Nat.le_refl _⟩ (Nat.le_of_ble_eq_true rfl) (x_swap 27 6 a b (gx27 hG) (by omega) (by omega) (by omega) _) (fun M43 h43 => ?_)))))))
        subst h43
        refine (ex_al0 dX8_change_46 (ex_getR dX8_change_47 flX8_36 (gx0 hG) (gr0_4 hG) (ex_getR dX8_change_50 flX8_124 (sa_sh (sa25 hG)) (sa_r3 (sa25 hG)) (ex_il1 dX8_change_53 (ex_il2 dX8_change_54 (ex_SV3 dX8_change_55 lkX8_181 ⟨(Nat.le_of_ble_eq_true rfl), (Nat.le_of_ble_eq_true rfl)⟩ ⟨Nat.le_refl _, Nat.le_refl _⟩ (Nat.le_of_ble_eq_true rfl) (x_swap 28 6 a b (gx28 hG) (by omega) (by omega) (by omega) _) (fun M55 h55 => ?_)))))))
        subst h55
        have hoc : ∀ c, c ≠ 27 → c ≠ 28 → swR (swR M31 27 a b) 28 a b c = M31 c := fun c e1 e2 => by rw [swR_oc e2, swR_oc e1]
        have hx2 : stX (swR (swR M31 27 a b) 28 a b) 25 g.1.1.1 (g.2.1.1, g.2.1.2.1, g.2.1.2.2.1, swp g.2.1.2.2.2.1 a b, swp g.2.1.2.2.2.2 a b) := by
          refine ⟨by rw [hoc 25 (by omega) (by omega)]; exact hx1.1, by rw [hoc 25 (by omega) (by omega)]; exact hx1.2.1, fun k hk => ⟨by rw [hoc (25 + 1) (by omega) (by omega)]; exact (hx1.2.2 k hk).1, ?_, ?_⟩⟩
          · rw [swR_oc (by omega)]
            show swR M31 27 a b 27 k = nI (swp g.2.1.2.2.2.1 a b k)
            have e1 := (hx1.2.2 a ha).2.1
            have e2 := (hx1.2.2 b hb).2.1
            have e3 := (hx1.2.2 k hk).2.1
            simp only [swR, swp, if_true]
            by_cases h1 : k = b
            · simp only [if_pos h1]; exact e1
            · by_cases h2 : k = a
              · simp only [if_neg h1, if_pos h2]; exact e2
              · simp only [if_neg h1, if_neg h2]; exact e3
          · show swR (swR M31 27 a b) 28 a b 28 k = nI (swp g.2.1.2.2.2.2 a b k)
            have e1 := (hx1.2.2 a ha).2.2
            have e2 := (hx1.2.2 b hb).2.2
            have e3 := (hx1.2.2 k hk).2.2
            simp only [swR, swp, if_true, show ¬ (28 : Nat) = 27 by omega, if_false]
            by_cases h1 : k = b
            · simp only [if_pos h1]; exact e1
            · by_cases h2 : k = a
              · simp only [if_neg h1, if_pos h2]; exact e2
              · simp only [if_neg h1, if_neg h2]; exact e3
        refine (ex_al0 dX8_change_58 (ex_getR dX8_change_59 flX8_36 (gx0 hG) (gr0_4 hG) (ex_getR dX8_change_62 flX8_121 (sa_sh (sa25 hG)) (sa_r2 (sa25 hG)) (ex_il1 dX8_change_65 (ex_ildN dX8_change_66 (sa_a2 (sa25 hG)) (by omega) (by omega) (ex_top ((hx2.2.2 a ha).2.1) (ex_ri dX8_change_67 rfl rfl (⟨?_, hg.act (by omega) hx2 (f2.of (fun c e1 e2 => hoc c (by omega) (by omega))) (fun c hc => (hoc c (by omega) (by omega)).trans (f1 c (by omega))), fun c hc => (hoc c (by omega) (by omega)).trans (f1 c (by omega))⟩))))))))
        show nI (swp g.2.1.2.2.2.1 a b a) = nI (g.2.1.2.2.2.1 b)
        by_cases e : a = b
        · subst e; simp [swp]
        · simp [swp, e]
      · refine (ex_iconst (v := (-1)) dX8_change_21 rfl (ex_ri dX8_change_22 rfl rfl (⟨by simp [d_change, c18], by simp only [d_change, decide_eq_true c18, Bool.not_true, Bool.and_false]; exact hg, fun _ _ => rfl⟩)))
theorem s_smoke {sh : Sh} {Mr : MR} {L D : Nat} (hG : GX sh Mr L D) (M : MM) (g : Sg) (hg : RX M L g) (s : Int32) : CtI mX8_smoke [.ref 0, .int s] sh Mr M (PX L M (d_smoke g s)) := by
  have hL := GL hG
  refine ct_of (mi := mX8_smoke) (ls := [some (.ref 0), some (.int s)]) rfl rfl (Nat.le_of_ble_eq_true rfl) rfl ?_
  refine (ex_il1 dX8_smoke_0 (ex_SP1 dX8_smoke_1 lkX8_148 ⟨(Nat.le_of_ble_eq_true rfl), (Nat.le_of_ble_eq_true rfl)⟩ ⟨Nat.le_refl _, Nat.le_refl _⟩ (Nat.le_of_ble_eq_true rfl) (x_isStripe _ _ _ _) (ex_ifB_ne (tgt := 9) dX8_smoke_4 rfl (fun c4 => ?_) (fun c4 => ?_))))
  · obtain ⟨s, hs, rfl⟩ := isP_nat c4
    have hcs : cN (nI s) = s := cN_nI (by omega)
    have hd : d_smoke g (nI s) = (bI (!bt g.2.1.2.1 s), act g (g.2.1.1, g.2.1.2.1 ^^^ (nI 1 <<< (nI s &&& 31)), g.2.1.2.2)) := by simp only [d_smoke, c4, hcs, if_true]
    rw [hd]
    refine (ex_al0 dX8_smoke_9 (ex_getR dX8_smoke_10 flX8_48 (gx0 hG) (gr0_6 hG) (ex_al0 dX8_smoke_13 (ex_getR dX8_smoke_14 flX8_36 (gx0 hG) (gr0_4 hG) (ex_VV1 dX8_smoke_17 lkX8_167 (pi_sh (pi33 hG)) ⟨_, _, rfl⟩ ⟨(Nat.le_of_ble_eq_true rfl), (Nat.le_of_ble_eq_true rfl)⟩ ⟨Nat.le_refl _, Nat.le_refl _⟩ (Nat.le_of_ble_eq_true rfl) (x_put33 hG M g hg) (fun M17 h17 => ?_))))))
    obtain ⟨f1, f2⟩ := h17
    have hx1 : stX M17 25 g.1.1.1 g.2.1 := hg.2.1.of (fun c e1 e2 => f1 c (by omega))
    refine (ex_al0 dX8_smoke_20 (ex_getR dX8_smoke_21 flX8_36 (gx0 hG) (gr0_4 hG) (ex_dupR dX8_smoke_24 (ex_getI dX8_smoke_25 flX8_151 (sa_sh (sa25 hG)) (ex_top (hx1.2.1) (ex_iconst (v := nI 1) dX8_smoke_28 rfl (ex_il1 dX8_smoke_29 (ex_ishl dX8_smoke_30 (ex_ixor dX8_smoke_31 (ex_putI dX8_smoke_32 (fpX8_151 _) (sa_sh (sa25 hG)) (ex_al0 dX8_smoke_35 (ex_getR dX8_smoke_36 flX8_36 (gx0 hG) (gr0_4 hG) (ex_getI dX8_smoke_39 flX8_151 (sa_sh (sa25 hG)) (ex_top (wr_s) (ex_il1 dX8_smoke_42 (ex_ishr dX8_smoke_43 (ex_iconst (v := nI 1) dX8_smoke_44 rfl (ex_iand dX8_smoke_45 (ex_top (bit1 _ (by omega)) (ex_ri dX8_smoke_46 rfl rfl ?_))))))))))))))))))))
    refine ⟨?_, hg.act (by omega) ⟨by rw [wr_oi (by omega)]; exact hx1.1, wr_s, ?_⟩ (f2.of (fun c e1 e2 => wr_oc (by omega))) (fun c hc => by rw [wr_oc (by omega)]; exact f1 c (by omega)), fun c hc => by rw [wr_oc (by omega)]; exact f1 c (by omega)⟩
    · show bI _ = bI _
      rw [b_xor, one_shl (by omega) (by omega)]
      simp
    · rw [wr_oc (by omega), wr_oc (by omega), wr_oc (by omega)]
      exact hx1.2.2
  · refine (ex_iconst (v := (-1)) dX8_smoke_7 rfl (ex_ri dX8_smoke_8 rfl rfl (⟨by simp [d_smoke, c4], by simp only [d_smoke, c4]; exact hg, fun _ _ => rfl⟩)))
theorem s_undo {sh : Sh} {Mr : MR} {L D : Nat} (hG : GX sh Mr L D) (M : MM) (g : Sg) (hg : RX M L g) : CtI mX8_undo [.ref 0] sh Mr M (PX L M (d_undo g)) := by
  have hL := GL hG
  refine ct_of (mi := mX8_undo) (ls := [some (.ref 0)]) rfl rfl (Nat.le_of_ble_eq_true rfl) rfl ?_
  refine (ex_al0 dX8_undo_0 (ex_getR dX8_undo_1 flX8_48 (gx0 hG) (gr0_6 hG) (ex_al0 dX8_undo_4 (ex_getR dX8_undo_5 flX8_36 (gx0 hG) (gr0_4 hG) (ex_VI1 dX8_undo_8 lkX8_185 (pi_sh (pi33 hG)) ⟨_, _, rfl⟩ ⟨(Nat.le_of_ble_eq_true rfl), (Nat.le_of_ble_eq_true rfl)⟩ ⟨Nat.le_refl _, Nat.le_refl _⟩ (Nat.le_of_ble_eq_true rfl) (x_takeInto (pi33 hG) (sa25 hG) (by omega) (by omega) M g.1.1.1 hg.1.1.2.1 _ hg.2.2.1) (fun v8 M8 h8 => ?_))))))
  obtain ⟨rfl, f1, f2, f3⟩ := h8
  refine (ex_ifB_eq (tgt := 24) dX8_undo_11 rfl (fun c11 => ?_) (fun c11 => ?_))
  · have e : g.2.2.1.1 = 0 := by simpa using c11
    have := f2 e
    subst this
    refine (ex_bipush (v := (-2)) dX8_undo_24 rfl (ex_ri dX8_undo_26 rfl rfl (⟨by simp [d_undo, e], by simp only [d_undo, e, if_true]; exact hg, fun _ _ => rfl⟩)))
  · have e : ¬ g.2.2.1.1 = 0 := by simpa using c11
    obtain ⟨⟨b, q1, q2, q3, q4⟩, q5⟩ := f3 e
    obtain ⟨h1, h2, h3, h4, h5, h6⟩ := hg
    refine (ex_al0 dX8_undo_14 (ex_getR dX8_undo_15 flX8_48 (gx0 hG) (gr0_6 hG) (ex_getI dX8_undo_18 flX8_113 (pi_sh (pi33 hG)) (ex_top (q3) (ex_goto (tgt := 26) dX8_undo_21 rfl (ex_ri dX8_undo_26 rfl rfl (⟨by simp [d_undo, e], by simp only [d_undo, if_neg e]; exact ⟨h1.of (fun c e1 e2 => f1 c (by omega) (by omega)), q5, ⟨b, q1, q2, q3, q4⟩, h4.of (fun c e1 e2 => f1 c (by omega) (by omega)), h5.of (fun c e1 e2 => f1 c (by omega) (by omega)), h6.of (f1 1 (by omega) (by omega)) (f1 2 (by omega) (by omega))⟩, fun c hc => f1 c (by omega) (by omega)⟩)))))))
