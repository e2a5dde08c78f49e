/-! the reference: order, the call -/
theorem ordR_oc {M : MM} {B n code i c : Nat} (h : c ≠ B + 17) : ordR M B n code i c = M c := by funext j; unfold ordR; rw [if_neg (by omega)]
theorem ordR_at {M : MM} {B n code j : Nat} (h : j < n) : ordR M B n code 0 (B + 17) j = nI (dig n code j) := by unfold ordR; rw [if_pos ⟨rfl, by omega, h⟩]
theorem OrM.of {B : Nat} {g : Sg} {r r' : Option (Nat × (Nat → Nat))} {M M' : MM} (h : OrM B g r M) (hb : M' B = M B) (hc : ∀ c, B + 1 ≤ c → c ≤ B + 8 → M' c = M c) (h0 : M' (B + 14) 0 = M (B + 14) 0) (h1 : M' (B + 14) 1 = M (B + 14) 1) (hq : ∀ q, r' = some q → ∀ j, j < g.1.1.1 → M' (B + 18) j = nI (q.2 j)) : OrM B g r' M' := by
  obtain ⟨a1, a2, a3, a4, a5⟩ := h
  exact ⟨a1.of (fun k _ => by rw [hb]) hc, h0.trans a2, h1.trans a3, by rw [hb]; exact a4, hq⟩
theorem r_order {sh : Sh} {Mr : MR} {B : Nat} (hB : MD sh Mr B) (M : MM) (g : Sg) (hg : RM B M g) (hv : sgV g) (i : Int32) : CtI mX9_order [.ref B, .int i] sh Mr M (PM B M (d_order g i)) := by
  have h5 := hv.1.2.1.1
  have h6 := hv.1.1.1
  have h1 := hv.1.1.2.1
  have h66 := n66 h6
  have h999 := hv.2.1.1
  refine ct_of (mi := mX9_order) (ls := [some (.ref B), some (.int i), none, none, none, none]) rfl rfl (Nat.le_of_ble_eq_true rfl) rfl ?_
  refine (ex_il1 dX9_order_0 (ex_iconst (v := (-1)) dX9_order_1 rfl (ex_al0 dX9_order_2 (ex_getI dX9_order_3 flX9_85 (md_sh hB) (ex_top (hg.1.1) (ex_iconst (v := nI 1) dX9_order_6 rfl (ex_isub dX9_order_7 (ex_SP3 dX9_order_8 lkX9_88 ⟨(Nat.le_of_ble_eq_true rfl), (Nat.le_of_ble_eq_true rfl)⟩ ⟨Nat.le_refl _, Nat.le_refl _⟩ (Nat.le_of_ble_eq_true rfl) (m_in _ _ _ _ _ _) (ex_ifB_ne (tgt := 16) dX9_order_11 rfl (fun c11 => ?_) (fun c11 => ?_))))))))))
  · have hd : d_order g i = (odI (odF g.1 g.2.1 (g.1.1.1 ^ g.1.1.1)) i, g) := by simp [d_order, c11]
    rw [hd]
    refine (ex_iconst (v := nI 1) dX9_order_16 rfl (ex_is2 dX9_order_17 (Nat.le_of_ble_eq_true rfl) rfl (ex_iconst (v := nI 0) dX9_order_18 rfl (ex_is3 dX9_order_19 (Nat.le_of_ble_eq_true rfl) rfl ?_))))
    refine ex_for (I := fun k ls M' => ls = [some (.ref B), some (.int i), some (.int (nI (g.1.1.1 ^ k))), some (.int (nI k)), none, none] ∧ M' = M) g.1.1.1 ?_ ?_ 0 _ _ (Nat.zero_le _) ⟨rfl, rfl⟩
    · intro k ls M' hk h ih
      obtain ⟨rfl, rfl⟩ := h
      refine (ex_il3 dX9_order_20 (ex_al0 dX9_order_21 (ex_getI dX9_order_22 flX9_85 (md_sh hB) (ex_top (hg.1.1) (ex_icmp_geN (tgt := 41) dX9_order_25 rfl (by omega) (by omega) (fun c25 => (absurd c25 (by omega))) (fun c25 => (ex_il2 dX9_order_28 (ex_al0 dX9_order_29 (ex_getI dX9_order_30 flX9_85 (md_sh hB) (ex_top (hg.1.1) (ex_imulN dX9_order_33 (ex_is2 dX9_order_34 (Nat.le_of_ble_eq_true rfl) rfl (ex_inc3 dX9_order_35 (Nat.le_of_ble_eq_true rfl) rfl (inc1 _) (ex_goto (tgt := 20) dX9_order_38 rfl ?_))))))))))))))
      exact ih _ _ ⟨rfl, rfl⟩
    · intro ls M' h
      obtain ⟨rfl, rfl⟩ := h
      generalize hT : g.1.1.1 ^ g.1.1.1 = T at h66 ⊢
      refine (ex_il3 dX9_order_20 (ex_al0 dX9_order_21 (ex_getI dX9_order_22 flX9_85 (md_sh hB) (ex_top (hg.1.1) (ex_icmp_geN (tgt := 41) dX9_order_25 rfl (by omega) (by omega) (fun c25 => (ex_al0 dX9_order_41 (ex_VV0 dX9_order_42 lkX9_190 (md_sh hB) ⟨_, _, rfl⟩ ⟨(Nat.le_of_ble_eq_true rfl), (Nat.le_of_ble_eq_true rfl)⟩ ⟨Nat.le_refl _, Nat.le_refl _⟩ (Nat.le_of_ble_eq_true rfl) (r_asItIs hB M' g hg) (fun M42 h42 => ?_)))) (fun c25 => (absurd (Nat.le_refl _) c25)))))))
      subst h42
      refine (ex_iconst (v := (-1)) dX9_order_45 rfl (ex_is3 dX9_order_46 (Nat.le_of_ble_eq_true rfl) rfl (ex_iconst (v := nI 0) dX9_order_47 rfl (ex_is4 dX9_order_48 (Nat.le_of_ble_eq_true rfl) rfl ?_))))
      refine ex_for (I := fun code ls M'' => (∃ o5, ls = [some (.ref B), some (.int i), some (.int (nI T)), some (.int (mny (odF g.1 g.2.1 code))), some (.int (nI code)), o5]) ∧ OrM B g (odF g.1 g.2.1 code) M'' ∧ ∀ c, c < B → M'' c = M' c) T ?_ ?_ 0 _ _ (Nat.zero_le _) ⟨⟨none, rfl⟩, ⟨asIs_RM hg, by rw [asIs_now (by omega)]; exact hg.2.2.2.2.1.1, by rw [asIs_now (by omega)]; exact hg.2.2.2.2.1.2.1, fun j hj => asIs_lit hg hj, fun q h => by cases h⟩, fun c hc => asIs_oc (by omega) (by omega)⟩
      · intro code ls M1 hcd h ih
        obtain ⟨⟨o5, rfl⟩, hO, hfr⟩ := h
        have hst : odF g.1 g.2.1 (code + 1) = if isOrd g.1.1.1 code then (match odF g.1 g.2.1 code with | none => some (vO g.1 g.2.1 (dig g.1.1.1 code), dig g.1.1.1 code) | some q => if q.1 < vO g.1 g.2.1 (dig g.1.1.1 code) then some (vO g.1 g.2.1 (dig g.1.1.1 code), dig g.1.1.1 code) else some q) else odF g.1 g.2.1 code := rfl
        have hdl : ∀ j, dig g.1.1.1 code j < g.1.1.1 := fun j => dig_lt h1
        refine (ex_il4 dX9_order_50 (ex_il2 dX9_order_52 (ex_icmp_geN (tgt := 177) dX9_order_53 rfl (by omega) (by omega) (fun c53 => (absurd c53 (by omega))) (fun c53 => (ex_al0 dX9_order_56 (ex_il4 dX9_order_57 (ex_VI1 dX9_order_59 lkX9_215 (md_sh hB) ⟨_, _, rfl⟩ ⟨(Nat.le_of_ble_eq_true rfl), (Nat.le_of_ble_eq_true rfl)⟩ ⟨Nat.le_refl _, Nat.le_refl _⟩ (Nat.le_of_ble_eq_true rfl) (m_isOrder hB M1 g.1.1.1 code hO.1.1.1 h6 h1 (by omega)) (fun v59 M59 h59 => ?_))))))))
        obtain ⟨rfl, rfl⟩ := h59
        have hO2 : OrM B g (odF g.1 g.2.1 code) (ordR M1 B g.1.1.1 code 0) := hO.of (ordR_oc (by omega)) (fun c e1 e2 => ordR_oc (by omega)) (by rw [ordR_oc (by omega)]) (by rw [ordR_oc (by omega)]) (by rw [ordR_oc (by omega)]; exact hO.2.2.2.2)
        have hfr2 : ∀ c, c < B → ordR M1 B g.1.1.1 code 0 c = M' c := fun c hc => by rw [ordR_oc (by omega)]; exact hfr c hc
        have hdg : ∀ j, j < g.1.1.1 → ordR M1 B g.1.1.1 code 0 (B + 17) j = nI (dig g.1.1.1 code j) := fun j hj => ordR_at hj
        generalize ordR M1 B g.1.1.1 code 0 = M2 at hO2 hfr2 hdg ⊢
        refine (ex_ifB_eq (tgt := 171) dX9_order_62 rfl (fun c62 => ?_) (fun c62 => ?_))
        · refine (ex_inc4 dX9_order_171 (Nat.le_of_ble_eq_true rfl) rfl (inc1 _) (ex_goto (tgt := 50) dX9_order_174 rfl ?_))
          rw [hst, c62] at ih
          exact ih _ _ ⟨⟨_, rfl⟩, hO2, hfr2⟩
        · generalize hw : dig g.1.1.1 code = w at hdl hdg hst
          have hv5 := vO_le g.1 g.2.1 w
          have hst2 := hO2.1.2.2.2.2.1
          refine (ex_iconst (v := nI 0) dX9_order_65 rfl (ex_is5 dX9_order_66 (Nat.le_of_ble_eq_true rfl) rfl ?_))
          refine ex_for (I := fun k ls M'' => ls = [some (.ref B), some (.int i), some (.int (nI T)), some (.int (mny (odF g.1 g.2.1 code))), some (.int (nI code)), some (.int (nI k))] ∧ M'' = fun c j => if c = B + 14 ∧ 8 ≤ j ∧ j < 8 + k then nI (g.2.1.2.2.2.1 (w (j - 8))) else if c = B + 14 ∧ 14 ≤ j ∧ j < 14 + k then nI (g.2.1.2.2.2.2 (w (j - 14))) else M2 c j) g.1.1.1 ?_ ?_ 0 _ _ (Nat.zero_le _) ⟨rfl, by funext c j; rw [if_neg (by omega), if_neg (by omega)]⟩
          · intro k ls M'' hk h ihk
            obtain ⟨rfl, rfl⟩ := h
            have hwk := hdl k
            have s1 := hst2.2.2 (w k) hwk
            simp only [Nat.zero_add] at s1
            refine (ex_il5 dX9_order_68 (ex_al0 dX9_order_70 (ex_getI dX9_order_71 flX9_85 (md_sh hB) (ex_top (y := nI (g.1.1.1)) (by simp only [show ¬ B = B + 14 by omega, false_and, if_false]; exact hO2.1.1.1) (ex_icmp_geN (tgt := 133) dX9_order_74 rfl (by omega) (by omega) (fun c74 => (absurd c74 (by omega))) (fun c74 => (ex_al0 dX9_order_77 (ex_getR dX9_order_78 flX9_49 (md_sh hB) (md_r24 hB) (ex_bipush (v := nI 8) dX9_order_81 rfl (ex_il5 dX9_order_83 (ex_iaddN dX9_order_85 (ex_al0 dX9_order_86 (ex_getR dX9_order_87 flX9_19 (md_sh hB) (md_r6 hB) (ex_bipush (v := nI 8) dX9_order_90 rfl (ex_al0 dX9_order_92 (ex_getR dX9_order_93 flX9_58 (md_sh hB) (md_r28 hB) (ex_il5 dX9_order_96 (ex_ildN dX9_order_98 (md_a28 hB) (by omega) (by omega) (ex_top (y := nI ((w k))) (by simp only [show ¬ B + 17 = B + 14 by omega, false_and, if_false]; exact hdg k hk) (ex_iaddN dX9_order_99 (ex_ildN dX9_order_100 (md_a6 hB) (by omega) (by omega) (ex_top (y := (nI (g.2.1.2.2.2.1 (w k)))) (by simp only [show ¬ B + 4 = B + 14 by omega, false_and, if_false]; exact s1.2.1) (ex_istN dX9_order_101 (md_a24 hB) (by omega) (by omega) (ex_al0 dX9_order_102 (ex_getR dX9_order_103 flX9_49 (md_sh hB) (md_r24 hB) (ex_bipush (v := nI 14) dX9_order_106 rfl (ex_il5 dX9_order_108 (ex_iaddN dX9_order_110 (ex_al0 dX9_order_111 (ex_getR dX9_order_112 flX9_19 (md_sh hB) (md_r6 hB) (ex_bipush (v := nI 14) dX9_order_115 rfl (ex_al0 dX9_order_117 (ex_getR dX9_order_118 flX9_58 (md_sh hB) (md_r28 hB) (ex_il5 dX9_order_121 (ex_ildN dX9_order_123 (md_a28 hB) (by omega) (by omega) (ex_top (y := nI ((w k))) (by rw [wr_oc (by omega)]; simp only [show ¬ B + 17 = B + 14 by omega, false_and, if_false]; exact hdg k hk) (ex_iaddN dX9_order_124 (ex_ildN dX9_order_125 (md_a6 hB) (by omega) (by omega) (ex_top (y := (nI (g.2.1.2.2.2.2 (w k)))) (by rw [wr_oc (by omega)]; simp only [show ¬ B + 4 = B + 14 by omega, false_and, if_false]; exact s1.2.2) (ex_istN dX9_order_126 (md_a24 hB) (by omega) (by omega) (ex_inc5 dX9_order_127 (Nat.le_of_ble_eq_true rfl) rfl (inc1 _) (ex_goto (tgt := 68) dX9_order_130 rfl ?_))))))))))))))))))))))))))))))))))))))))))
            refine ihk _ _ ⟨rfl, ?_⟩
            funext c j
            rw [show ∀ (A : MM) (a : Nat) (x : Int32), wr A (B + 14) a x c j = if c = B + 14 then (if j = a then x else A (B + 14) j) else A c j from fun _ _ _ => rfl]
            by_cases hc : c = B + 14
            · subst hc
              rw [show ∀ (A : MM) (a : Nat) (x : Int32), wr A (B + 14) a x (B + 14) j = if j = a then x else A (B + 14) j from fun A a x => by simp [wr]]
              by_cases e1 : j = 14 + k
              · subst e1
                have : ¬ (14 + k < 8 + (k + 1)) := by omega
                simp [this]
              · by_cases e2 : j = 8 + k
                · subst e2
                  simp [show ¬ (8 + k = 14 + k) by omega]
                · have e3 : (8 ≤ j ∧ j < 8 + (k + 1)) ↔ (8 ≤ j ∧ j < 8 + k) := by omega
                  have e4 : (14 ≤ j ∧ j < 14 + (k + 1)) ↔ (14 ≤ j ∧ j < 14 + k) := by omega
                  simp [e1, e2, e3, e4]
            · rw [if_neg hc, wr_oc hc]; simp [hc]
          · intro ls M'' h
            obtain ⟨rfl, hM3⟩ := h
            have hc3 : ∀ c, c ≠ B + 14 → M'' c = M2 c := fun c hc => by rw [hM3]; funext j; simp [hc]
            have h14 : M'' (B + 14) 0 = M2 (B + 14) 0 ∧ M'' (B + 14) 1 = M2 (B + 14) 1 := by rw [hM3]; exact ⟨by simp, by simp⟩
            have hnow : NowM B M'' g.1.1.1 (plW g.2.1 w) := by
              refine ⟨by rw [h14.1]; exact hO2.2.1, by show g.2.1.1 < 2 ^ 30; omega, fun j hj => ?_⟩
              have hwj := hdl j
              have vv := hv.2.1.2.2 (w j) hwj
              refine ⟨?_, vv.2.1, ?_, vv.2.2.2⟩
              · rw [hM3]; simp [hj, plW]
              · rw [hM3]
                have : ¬ (14 + j < 8 + g.1.1.1) := by omega
                simp [hj, plW, this]
            have hO3 : OrM B g (odF g.1 g.2.1 code) M'' := hO2.of (hc3 _ (by omega)) (fun c e1 e2 => hc3 _ (by omega)) h14.1 h14.2 (by rw [hc3 _ (by omega)]; exact hO2.2.2.2.2)
            have hfr3 : ∀ c, c < B → M'' c = M' c := fun c hc => by rw [hc3 _ (by omega)]; exact hfr2 c hc
            have hdg3 : ∀ j, j < g.1.1.1 → M'' (B + 17) j = nI (w j) := fun j hj => by rw [hc3 _ (by omega)]; exact hdg j hj
            clear hM3 hc3 h14
            refine (ex_il5 dX9_order_68 (ex_al0 dX9_order_70 (ex_getI dX9_order_71 flX9_85 (md_sh hB) (ex_top (hO3.1.1.1) (ex_icmp_geN (tgt := 133) dX9_order_74 rfl (by omega) (by omega) (fun c74 => (ex_al0 dX9_order_133 (ex_VV0 dX9_order_134 lkX9_199 (md_sh hB) ⟨_, _, rfl⟩ ⟨(Nat.le_of_ble_eq_true rfl), (Nat.le_of_ble_eq_true rfl)⟩ ⟨Nat.le_refl _, Nat.le_refl _⟩ (Nat.le_of_ble_eq_true rfl) (m_nS hB M'' g hO3.1 hv (plW g.2.1 w) hnow _ (bt g.2.1.2.1) hO3.2.2.2.1 (by rw [hO3.2.2.1])) (fun M134 h134 => ?_)))) (fun c74 => (absurd (Nat.le_refl _) c74)))))))
            subst h134
            have hp : ∀ c, c ≠ B + 15 → c ≠ B + 16 → pnt M'' B (who g.1.1 (plW g.2.1 w) (lit g.1 g.2.1)) (cof g.1.1 (plW g.2.1 w) (lit g.1 g.2.1) (bt g.2.1.2.1)) 24 c = M'' c := fun c e1 e2 => pnt_oc e1 e2
            have hcr := cof_row (B := B) (M := M'') hv (w := who g.1.1 (plW g.2.1 w) (lit g.1 g.2.1)) (p := plW g.2.1 w) (li := lit g.1 g.2.1) (sm := bt g.2.1.2.1)
            have hO4 : OrM B g (odF g.1 g.2.1 code) (pnt M'' B (who g.1.1 (plW g.2.1 w) (lit g.1 g.2.1)) (cof g.1.1 (plW g.2.1 w) (lit g.1 g.2.1) (bt g.2.1.2.1)) 24) := hO3.of (hp _ (by omega) (by omega)) (fun c e1 e2 => hp _ (by omega) (by omega)) (by rw [hp _ (by omega) (by omega)]) (by rw [hp _ (by omega) (by omega)]) (by rw [hp _ (by omega) (by omega)]; exact hO3.2.2.2.2)
            have hfr4 : ∀ c, c < B → pnt M'' B (who g.1.1 (plW g.2.1 w) (lit g.1 g.2.1)) (cof g.1.1 (plW g.2.1 w) (lit g.1 g.2.1) (bt g.2.1.2.1)) 24 c = M' c := fun c hc => by rw [hp _ (by omega) (by omega)]; exact hfr3 c hc
            have hdg4 : ∀ j, j < g.1.1.1 → pnt M'' B (who g.1.1 (plW g.2.1 w) (lit g.1 g.2.1)) (cof g.1.1 (plW g.2.1 w) (lit g.1 g.2.1) (bt g.2.1.2.1)) 24 (B + 17) j = nI (w j) := fun j hj => by rw [hp _ (by omega) (by omega)]; exact hdg3 j hj
            generalize pnt M'' B (who g.1.1 (plW g.2.1 w) (lit g.1 g.2.1)) (cof g.1.1 (plW g.2.1 w) (lit g.1 g.2.1) (bt g.2.1.2.1)) 24 = M4 at hcr hO4 hfr4 hdg4 ⊢
            have J : odF g.1 g.2.1 (code + 1) = some (vO g.1 g.2.1 w, w) → EI mX9_order sh Mr (PM B M' (odI (odF g.1 g.2.1 T) i, g)) 152 [some (.ref B), some (.int i), some (.int (nI T)), some (.int (mny (odF g.1 g.2.1 code))), some (.int (nI code)), some (.int (nI (vO g.1 g.2.1 w)))] [] M4 := by
              intro hnew
              refine (ex_il5 dX9_order_152 (ex_is3 dX9_order_154 (Nat.le_of_ble_eq_true rfl) rfl (ex_al0 dX9_order_155 (ex_getR dX9_order_156 flX9_61 (md_sh hB) (md_r29 hB) (ex_iconst (v := nI 0) dX9_order_159 rfl (ex_al0 dX9_order_160 (ex_getR dX9_order_161 flX9_58 (md_sh hB) (md_r28 hB) (ex_al0 dX9_order_164 (ex_getI dX9_order_165 flX9_85 (md_sh hB) (ex_top (hO4.1.1.1) (ex_SV4 dX9_order_168 lkX9_145 ⟨(Nat.le_of_ble_eq_true rfl), (Nat.le_of_ble_eq_true rfl)⟩ ⟨Nat.le_refl _, Nat.le_refl _⟩ (Nat.le_of_ble_eq_true rfl) (m_put (B + 18) (B + 17) 6 6 0 g.1.1.1 (md_a29 hB) (md_a28 hB) (by omega) (by omega) (by omega) (by omega) (by omega) M4) (fun M168 h168 => ?_))))))))))))
              subst h168
              refine (ex_inc4 dX9_order_171 (Nat.le_of_ble_eq_true rfl) rfl (inc1 _) (ex_goto (tgt := 50) dX9_order_174 rfl ?_))
              rw [hnew] at ih
              refine ih _ _ ⟨⟨_, rfl⟩, hO4.of (putR_oc (by omega)) (fun c e1 e2 => putR_oc (by omega)) (by rw [putR_oc (by omega)]) (by rw [putR_oc (by omega)]) (fun q hq j hj => ?_), fun c hc => by rw [putR_oc (by omega)]; exact hfr4 c hc⟩
              cases hq
              have := putR_in (M := M4) (c := B + 18) (fr := 0) (f := M4 (B + 17)) (n := g.1.1.1) hj
              rw [Nat.zero_add] at this
              rw [this]; exact hdg4 j hj
            refine (ex_al0 dX9_order_137 (ex_VP0 dX9_order_138 lkX9_212 (md_sh hB) ⟨_, _, rfl⟩ ⟨(Nat.le_of_ble_eq_true rfl), (Nat.le_of_ble_eq_true rfl)⟩ ⟨Nat.le_refl _, Nat.le_refl _⟩ (Nat.le_of_ble_eq_true rfl) (m_sureInAny hB M4 g.1.2.1 hO4.1.2.1 _ hcr) (ex_SP1 dX9_order_141 lkX9_218 ⟨(Nat.le_of_ble_eq_true rfl), (Nat.le_of_ble_eq_true rfl)⟩ ⟨Nat.le_refl _, Nat.le_refl _⟩ (Nat.le_of_ble_eq_true rfl) (m_bits _ _ _ _) (ex_top (y := nI ((vO g.1 g.2.1 w))) (by rw [cnt_bset (by omega) (by omega)]; rfl) (ex_is5 dX9_order_144 (Nat.le_of_ble_eq_true rfl) rfl ?_)))))
            cases hr : odF g.1 g.2.1 code with
            | none =>
              rw [hr] at J hst
              have hnew : odF g.1 g.2.1 (code + 1) = some (vO g.1 g.2.1 w, w) := by rw [hst, c62]; rfl
              refine (ex_il5 dX9_order_146 (ex_il3 dX9_order_148 (ex_icmp_le (tgt := 171) dX9_order_149 rfl (fun c149 => (absurd c149 (by show ¬ nI _ ≤ -1; rw [i_le_iff, nI_toInt (by omega)]; show ¬ (_ : Int) ≤ -1; omega))) (fun c149 => ?_))))
              exact J hnew
            | some q =>
              have hq5 : q.1 ≤ 5 := by rw [(odF_v hr).1]; exact Nat.le_trans (vO_le _ _ _) h5
              rw [hr] at J hst hO4
              have hst2 : odF g.1 g.2.1 (code + 1) = if q.1 < vO g.1 g.2.1 w then some (vO g.1 g.2.1 w, w) else some q := by rw [hst, c62]; rfl
              rw [show mny (some q) = nI q.1 from rfl] at J ⊢
              refine (ex_il5 dX9_order_146 (ex_il3 dX9_order_148 (ex_icmp_leN (tgt := 171) dX9_order_149 rfl (by omega) (by omega) (fun c149 => ?_) (fun c149 => ?_))))
              · refine (ex_inc4 dX9_order_171 (Nat.le_of_ble_eq_true rfl) rfl (inc1 _) (ex_goto (tgt := 50) dX9_order_174 rfl ?_))
                have hnew : odF g.1 g.2.1 (code + 1) = some q := by rw [hst2, if_neg (by omega)]
                rw [hnew] at ih
                exact ih _ _ ⟨⟨_, rfl⟩, hO4, hfr4⟩
              · exact J (by rw [hst2, if_pos (by omega)])
      · intro ls M1 h
        obtain ⟨⟨o5, rfl⟩, hO, hfr⟩ := h
        obtain ⟨c0, hc0, ho0⟩ := isOrd_id g.1.1.1 h1 h6
        rw [hT] at hc0
        obtain ⟨q, hq⟩ := odF_some (o := g.1) (x := g.2.1) hc0 ho0
        rcases (inB_m1n (by omega)).mp c11 with rfl | ⟨j, hj, rfl⟩
        · refine (ex_il4 dX9_order_50 (ex_il2 dX9_order_52 (ex_icmp_geN (tgt := 177) dX9_order_53 rfl (by omega) (by omega) (fun c53 => (ex_il1 dX9_order_177 (ex_if_ge (tgt := 185) dX9_order_178 rfl (fun c178 => (absurd c178 (by decide))) (fun c178 => (ex_il3 dX9_order_181 (ex_goto (tgt := 191) dX9_order_182 rfl (ex_ri dX9_order_191 rfl rfl (⟨by rw [hq]; simp [odI, mny], hO.1, hfr⟩)))))))) (fun c53 => (absurd (Nat.le_refl _) c53)))))
        · have hne : ¬ nI j = -1 := by
            intro e
            have h2 := congrArg Int32.toInt e
            rw [nI_toInt (by omega)] at h2
            rw [show ((-1 : Int32)).toInt = -1 by decide] at h2
            omega
          refine (ex_il4 dX9_order_50 (ex_il2 dX9_order_52 (ex_icmp_geN (tgt := 177) dX9_order_53 rfl (by omega) (by omega) (fun c53 => (ex_il1 dX9_order_177 (ex_if_ge (tgt := 185) dX9_order_178 rfl (fun c178 => (ex_al0 dX9_order_185 (ex_getR dX9_order_186 flX9_61 (md_sh hB) (md_r29 hB) (ex_il1 dX9_order_189 (ex_ildN dX9_order_190 (md_a29 hB) (by omega) (by omega) (ex_ri dX9_order_191 rfl rfl (⟨by rw [hq]; simp only [odI, if_neg hne, cN_nI (show j < 2 ^ 31 by omega)]; exact hO.2.2.2.2 q hq j hj, hO.1, hfr⟩))))))) (fun c178 => (absurd (nI_pos' (by omega)) c178))))) (fun c53 => (absurd (Nat.le_refl _) c53)))))
  · refine (ex_iconst (v := (-1)) dX9_order_14 rfl (ex_ri dX9_order_15 rfl rfl (⟨by simp [d_order, c11], hg, fun _ _ => rfl⟩)))
