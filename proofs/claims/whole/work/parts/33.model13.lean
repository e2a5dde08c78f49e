/-! the reference: weeks -/
theorem mul_s (k : Nat) (r : Int32) : nI k * r + r = nI (k + 1) * r := by rw [← nI_1, Int32.add_mul, Int32.one_mul]
theorem drw_lt (z k : Nat) : drw z k < 4 := Nat.mod_lt _ (by decide)
def WkM (B : Nat) (g : Sg) (k : Nat) (M : MM) : Prop := RM B M g ∧ M (B + 14) 0 = nI (g.2.1.1 + k) ∧ M (B + 14) 1 = g.2.1.2.1 ∧ ∀ i, i < g.1.1.1 → M (B + 14) (2 + i) = g.2.1.2.2.1 i + nI k * g.1.1.2.2.1 i ∧ M (B + 14) (8 + i) = nI (g.2.1.2.2.2.1 i) ∧ M (B + 14) (14 + i) = nI (g.2.1.2.2.2.2 i)
theorem r_weeks {sh : Sh} {Mr : MR} {B : Nat} (hB : MD sh Mr B) (M : MM) (g : Sg) (hg : RM B M g) (hv : sgV g) (z n w : Int32) : CtI mX9_weeks [.ref B, .int z, .int n, .int w] sh Mr M (PM B M (d_weeks g z n w)) := by
  have h5 := hv.1.2.1.1
  have h6 := hv.1.1.1
  have h999 := hv.2.1.1
  have hst := hg.2.2.2.2.1
  have J0 : (inB z (nI 0) (nI 9999) && (inB n (nI 1) (nI 60) && inB w (nI 0) (nI 1))) = false → EI mX9_weeks sh Mr (PM B M (d_weeks g z n w)) 30 [some (.ref B), some (.int z), some (.int n), some (.int w), none, none, none, none, none, none, none, none] [] M := by
    intro h
    refine (ex_iconst (v := (-1)) dX9_weeks_30 rfl (ex_ri dX9_weeks_31 rfl rfl (⟨by simp [d_weeks, h], hg, fun _ _ => rfl⟩)))
  refine ct_of (mi := mX9_weeks) (ls := [some (.ref B), some (.int z), some (.int n), some (.int w), none, none, none, none, none, none, none, none]) rfl rfl (Nat.le_of_ble_eq_true rfl) rfl ?_
  refine (ex_il1 dX9_weeks_0 (ex_iconst (v := nI 0) dX9_weeks_1 rfl (ex_sipush (v := nI 9999) dX9_weeks_2 rfl (ex_SP3 dX9_weeks_5 lkX9_88 ⟨(Nat.le_of_ble_eq_true rfl), (Nat.le_of_ble_eq_true rfl)⟩ ⟨Nat.le_refl _, Nat.le_refl _⟩ (Nat.le_of_ble_eq_true rfl) (m_in _ _ _ _ _ _) (ex_ifB_eq (tgt := 30) dX9_weeks_8 rfl (fun c8 => ?_) (fun c8 => ?_))))))
  · exact J0 (by rw [c8]; rfl)
  · refine (ex_il2 dX9_weeks_11 (ex_iconst (v := nI 1) dX9_weeks_12 rfl (ex_bipush (v := nI 60) dX9_weeks_13 rfl (ex_SP3 dX9_weeks_15 lkX9_88 ⟨(Nat.le_of_ble_eq_true rfl), (Nat.le_of_ble_eq_true rfl)⟩ ⟨Nat.le_refl _, Nat.le_refl _⟩ (Nat.le_of_ble_eq_true rfl) (m_in _ _ _ _ _ _) (ex_ifB_eq (tgt := 30) dX9_weeks_18 rfl (fun c18 => ?_) (fun c18 => ?_))))))
    · exact J0 (by rw [c18]; simp)
    · refine (ex_il3 dX9_weeks_21 (ex_iconst (v := nI 0) dX9_weeks_22 rfl (ex_iconst (v := nI 1) dX9_weeks_23 rfl (ex_SP3 dX9_weeks_24 lkX9_88 ⟨(Nat.le_of_ble_eq_true rfl), (Nat.le_of_ble_eq_true rfl)⟩ ⟨Nat.le_refl _, Nat.le_refl _⟩ (Nat.le_of_ble_eq_true rfl) (m_in _ _ _ _ _ _) (ex_ifB_ne (tgt := 32) dX9_weeks_27 rfl (fun c27 => ?_) (fun c27 => ?_))))))
      · obtain ⟨z, hz, rfl⟩ := inB_nat (by decide) c8
        obtain ⟨n, ⟨hn1, hn⟩, rfl⟩ := in1 (n := 0) (by decide) c18
        have hd : d_weeks g (nI z) (nI n) w = (if w = nI 0 then nI (cnt (fun k => decide (wkS g.1 g.2.1 z k = g.1.2.1.1)) n) else nI (smN (wkS g.1 g.2.1 z) n), g) := by
          unfold d_weeks
          rw [c8, c18, c27, cN_nI (show z < 2 ^ 31 by omega), cN_nI (show n < 2 ^ 31 by omega)]; rfl
        rw [hd]
        have hwk : ∀ k, wkS g.1 g.2.1 z k = nS g.1 (goBy g.1 g.2.1 k) (lit g.1 (goBy g.1 g.2.1 k)) (bt g.2.1.2.1) (drw z k) := fun k => rfl
        have hw5 : ∀ k, wkS g.1 g.2.1 z k ≤ 5 := fun k => Nat.le_trans (nS_le _ _ _ _ _) h5
        generalize wkS g.1 g.2.1 z = wk at hwk hw5 ⊢
        refine (ex_al0 dX9_weeks_32 (ex_VV0 dX9_weeks_33 lkX9_190 (md_sh hB) ⟨_, _, rfl⟩ ⟨(Nat.le_of_ble_eq_true rfl), (Nat.le_of_ble_eq_true rfl)⟩ ⟨Nat.le_refl _, Nat.le_refl _⟩ (Nat.le_of_ble_eq_true rfl) (r_asItIs hB M g hg) (fun M33 h33 => (ex_iconst (v := nI 0) dX9_weeks_36 rfl (ex_is4 dX9_weeks_37 (Nat.le_of_ble_eq_true rfl) rfl (ex_iconst (v := nI 0) dX9_weeks_39 rfl (ex_is5 dX9_weeks_40 (Nat.le_of_ble_eq_true rfl) rfl (ex_iconst (v := nI 0) dX9_weeks_42 rfl (ex_is6 dX9_weeks_43 (Nat.le_of_ble_eq_true rfl) rfl ?_)))))))))
        subst h33
        refine ex_for (I := fun k ls M' => (∃ o7 o8 o9 o10 o11, ls = [some (.ref B), some (.int (nI z)), some (.int (nI n)), some (.int w), some (.int (nI (cnt (fun k => decide (wk k = g.1.2.1.1)) k))), some (.int (nI (smN wk k))), some (.int (nI k)), o7, o8, o9, o10, o11]) ∧ WkM B g k M' ∧ ∀ c, c < B → M' c = M c) n ?_ ?_ 0 _ _ (Nat.zero_le _) ⟨⟨none, none, none, none, none, rfl⟩, ⟨asIs_RM hg, by rw [asIs_now (by omega)]; exact hst.1, by rw [asIs_now (by omega)]; exact hst.2.1, fun i hi => ?_⟩, fun c hc => asIs_oc (by omega) (by omega)⟩
        · intro k ls M' hk h ih
          obtain ⟨⟨o7, o8, o9, o10, o11, rfl⟩, ⟨hg', hk0, hk1, hki⟩, hfr⟩ := h
          have hx : 7919 * z + 6151 * k + 1 ≤ 80000000 := by omega
          have hxx := Nat.mul_le_mul hx hx
          have hcn := cnt_le (fun k => decide (wk k = g.1.2.1.1)) k
          have hsm := smN_le (f := wk) (b := 5) k (fun i _ => hw5 i)
          have hb5 : M' B 5 = g.1.2.2.2 := hg'.2.2.2.1
          refine (ex_il6 dX9_weeks_45 (ex_il2 dX9_weeks_47 (ex_icmp_geN (tgt := 193) dX9_weeks_48 rfl (by omega) (by omega) (fun c48 => (absurd c48 (by omega))) (fun c48 => (ex_ldc2 dX9_weeks_51 kcX9_228 (ex_topL (y := lN (7919)) (rfl) (ex_il1 dX9_weeks_54 (ex_i2l dX9_weeks_55 (ex_topL (y := lN (z)) (nI_l (by omega)) (ex_lmul dX9_weeks_56 (ex_topL (y := lN ((7919 * z))) (lN_mul _ _) (ex_ldc2 dX9_weeks_57 kcX9_230 (ex_topL (y := lN (6151)) (rfl) (ex_il6 dX9_weeks_60 (ex_i2l dX9_weeks_62 (ex_topL (y := lN (k)) (nI_l (by omega)) (ex_lmul dX9_weeks_63 (ex_topL (y := lN ((6151 * k))) (lN_mul _ _) (ex_ladd dX9_weeks_64 (ex_topL (y := lN ((7919 * z + 6151 * k))) (lN_add _ _) (ex_lconst (v := lN 1) dX9_weeks_65 rfl (ex_ladd dX9_weeks_66 (ex_topL (y := lN ((7919 * z + 6151 * k + 1))) (lN_add _ _) (ex_ls7 dX9_weeks_67 (Nat.le_of_ble_eq_true rfl) rfl (ex_ll7 dX9_weeks_69 (ex_ll7 dX9_weeks_71 (ex_lmul dX9_weeks_73 (ex_topL (y := lN (((7919 * z + 6151 * k + 1) * (7919 * z + 6151 * k + 1)))) (lN_mul _ _) (ex_ldc2 dX9_weeks_74 kcX9_232 (ex_topL (y := lN (65521)) (rfl) (ex_lrem dX9_weeks_77 (by decide) (ex_topL (y := lN (((7919 * z + 6151 * k + 1) * (7919 * z + 6151 * k + 1) % 65521))) (pk_lRem (by omega) (by omega) (by omega)) (ex_ldc2 dX9_weeks_78 kcX9_234 (ex_topL (y := lN (4)) (rfl) (ex_ldiv dX9_weeks_81 (by decide) (ex_topL (y := lN (((7919 * z + 6151 * k + 1) * (7919 * z + 6151 * k + 1) % 65521 / 4))) (pk_lDiv (by omega) (by omega) (by omega)) (ex_l2i dX9_weeks_82 (ex_top (y := nI (((7919 * z + 6151 * k + 1) * (7919 * z + 6151 * k + 1) % 65521 / 4))) (lN_i _) (ex_iconst (v := nI 4) dX9_weeks_83 rfl (ex_iremN dX9_weeks_84 ⟨by omega, by omega, by omega⟩ (ex_is9 dX9_weeks_85 (Nat.le_of_ble_eq_true rfl) rfl (ex_al0 dX9_weeks_87 (ex_al0 dX9_weeks_88 (ex_VP0 dX9_weeks_89 lkX9_158 (md_sh hB) ⟨_, _, rfl⟩ ⟨(Nat.le_of_ble_eq_true rfl), (Nat.le_of_ble_eq_true rfl)⟩ ⟨Nat.le_refl _, Nat.le_refl _⟩ (Nat.le_of_ble_eq_true rfl) (m_behindNow hB M' g.1.1.1 (fun i => g.2.1.2.2.1 i + nI k * g.1.1.2.2.1 i) hg'.1.1 h6 (fun i hi => (hki i hi).1)) (ex_putI dX9_weeks_92 (fpX9_161 _) (md_sh hB) ?_)))))))))))))))))))))))))))))))))))))))))))))
          rw [hb5]
          generalize hM1 : wr M' B 25 (bset (fun i => !pay (fun i => g.2.1.2.2.1 i + nI k * g.1.1.2.2.1 i) g.1.2.2.2 i) g.1.1.1) = M1
          have hc1 : ∀ c, c ≠ B → M1 c = M' c := fun c hc => by rw [← hM1]; exact wr_oc hc
          have hw1 : RM B M1 g := by rw [← hM1]; exact wr_RM hg' (Or.inl rfl)
          have hli : ∀ j, j < g.1.1.1 → (!bt (M1 B 25) j) = lit g.1 (goBy g.1 g.2.1 k) j := fun j hj => by
            rw [← hM1, wr_s, bt_bset _ _ (by omega) j (by omega)]
            simp only [hj, decide_true, Bool.true_and, Bool.not_not]
            rfl
          have hnow : NowM B M1 g.1.1.1 (pl (goBy g.1 g.2.1 k)) := by
            refine ⟨by rw [hc1 _ (by omega)]; exact hk0, by show g.2.1.1 + k < 2 ^ 30; omega, fun i hi => ?_⟩
            rw [hc1 _ (by omega)]
            exact ⟨(hki i hi).2.1, (hv.2.1.2.2 i hi).2.1, (hki i hi).2.2, (hv.2.1.2.2 i hi).2.2.2⟩
          refine (ex_al0 dX9_weeks_95 (ex_VV0 dX9_weeks_96 lkX9_199 (md_sh hB) ⟨_, _, rfl⟩ ⟨(Nat.le_of_ble_eq_true rfl), (Nat.le_of_ble_eq_true rfl)⟩ ⟨Nat.le_refl _, Nat.le_refl _⟩ (Nat.le_of_ble_eq_true rfl) (m_nS hB M1 g hw1 hv (pl (goBy g.1 g.2.1 k)) hnow _ (bt g.2.1.2.1) hli (by rw [hc1 _ (by omega), hk1])) (fun M96 h96 => ?_)))
          subst h96
          have hg2 := pnt_RM (w := who g.1.1 (pl (goBy g.1 g.2.1 k)) (lit g.1 (goBy g.1 g.2.1 k))) (cl := cof g.1.1 (pl (goBy g.1 g.2.1 k)) (lit g.1 (goBy g.1 g.2.1 k)) (bt g.2.1.2.1)) hw1
          have hcr := cof_row (B := B) (M := M1) hv (w := who g.1.1 (pl (goBy g.1 g.2.1 k)) (lit g.1 (goBy g.1 g.2.1 k))) (p := pl (goBy g.1 g.2.1 k)) (li := lit g.1 (goBy g.1 g.2.1 k)) (sm := bt g.2.1.2.1)
          have h14 : pnt M1 B (who g.1.1 (pl (goBy g.1 g.2.1 k)) (lit g.1 (goBy g.1 g.2.1 k))) (cof g.1.1 (pl (goBy g.1 g.2.1 k)) (lit g.1 (goBy g.1 g.2.1 k)) (bt g.2.1.2.1)) 24 (B + 14) = M' (B + 14) := by rw [pnt_oc (by omega) (by omega), hc1 _ (by omega)]
          have hfr2 : ∀ c, c < B → pnt M1 B (who g.1.1 (pl (goBy g.1 g.2.1 k)) (lit g.1 (goBy g.1 g.2.1 k))) (cof g.1.1 (pl (goBy g.1 g.2.1 k)) (lit g.1 (goBy g.1 g.2.1 k)) (bt g.2.1.2.1)) 24 c = M c := fun c hc => by rw [pnt_oc (by omega) (by omega), hc1 _ (by omega)]; exact hfr c hc
          generalize pnt M1 B (who g.1.1 (pl (goBy g.1 g.2.1 k)) (lit g.1 (goBy g.1 g.2.1 k))) (cof g.1.1 (pl (goBy g.1 g.2.1 k)) (lit g.1 (goBy g.1 g.2.1 k)) (bt g.2.1.2.1)) 24 = M2 at hg2 hcr h14 hfr2 ⊢
          have hwk5 := hw5 k
          have J : ∀ o10 : Option AV, EI mX9_weeks sh Mr (PM B M (if w = nI 0 then nI (cnt (fun k => decide (wk k = g.1.2.1.1)) n) else nI (smN wk n), g)) 129 [some (.ref B), some (.int (nI z)), some (.int (nI n)), some (.int w), some (.int (nI (cnt (fun k => decide (wk k = g.1.2.1.1)) (k + 1)))), some (.int (nI (smN wk k))), some (.int (nI k)), some (.long (lN (7919 * z + 6151 * k + 1))), none, some (.int (nI (drw z k))), some (.int (nI (wk k))), o11] [] M2 := by
            intro _
            refine (ex_il5 dX9_weeks_129 (ex_il10 dX9_weeks_131 (ex_iaddN dX9_weeks_133 (ex_is5 dX9_weeks_134 (Nat.le_of_ble_eq_true rfl) rfl (ex_al0 dX9_weeks_136 (ex_getR dX9_weeks_137 flX9_49 (md_sh hB) (md_r24 hB) (ex_iconst (v := nI 0) dX9_weeks_140 rfl (ex_dup2 dX9_weeks_141 (ex_ildN dX9_weeks_142 (md_a24 hB) (by omega) (by omega) (ex_top (y := nI ((g.2.1.1 + k))) (by rw [h14]; exact hk0) (ex_iconst (v := nI 1) dX9_weeks_143 rfl (ex_iaddN dX9_weeks_144 (ex_istN dX9_weeks_145 (md_a24 hB) (by omega) (by omega) (ex_iconst (v := nI 0) dX9_weeks_146 rfl (ex_is11 dX9_weeks_147 (Nat.le_of_ble_eq_true rfl) rfl ?_)))))))))))))))
            refine ex_for (I := fun i ls M' => ls = [some (.ref B), some (.int (nI z)), some (.int (nI n)), some (.int w), some (.int (nI (cnt (fun k => decide (wk k = g.1.2.1.1)) (k + 1)))), some (.int (nI (smN wk k + wk k))), some (.int (nI k)), some (.long (lN (7919 * z + 6151 * k + 1))), none, some (.int (nI (drw z k))), some (.int (nI (wk k))), some (.int (nI i))] ∧ M' = fun c j => if c = B + 14 ∧ 2 ≤ j ∧ j < 2 + i then g.2.1.2.2.1 (j - 2) + nI (k + 1) * g.1.1.2.2.1 (j - 2) else wr M2 (B + 14) 0 (nI (g.2.1.1 + k + 1)) c j) g.1.1.1 ?_ ?_ 0 _ _ (Nat.zero_le _) ⟨rfl, ?_⟩
            · intro i ls M' hi h ihi
              obtain ⟨rfl, rfl⟩ := h
              refine (ex_il11 dX9_weeks_149 (ex_al0 dX9_weeks_151 (ex_getI dX9_weeks_152 flX9_85 (md_sh hB) (ex_top (y := nI (g.1.1.1)) (by simp only [show ¬ B = B + 14 by omega, false_and, if_false]; rw [wr_oc (by omega)]; exact hg2.1.1) (ex_icmp_geN (tgt := 187) dX9_weeks_155 rfl (by omega) (by omega) (fun c155 => (absurd c155 (by omega))) (fun c155 => (ex_al0 dX9_weeks_158 (ex_getR dX9_weeks_159 flX9_49 (md_sh hB) (md_r24 hB) (ex_iconst (v := nI 2) dX9_weeks_162 rfl (ex_il11 dX9_weeks_163 (ex_iaddN dX9_weeks_165 (ex_dup2 dX9_weeks_166 (ex_ildN dX9_weeks_167 (md_a24 hB) (by omega) (by omega) (ex_top (y := (g.2.1.2.2.1 i + nI k * g.1.1.2.2.1 i)) (by simp only [show ¬ (2 + i < 2 + i) by omega, and_false, if_false]; rw [wr_oi (by omega), h14]; exact (hki i hi).1) (ex_al0 dX9_weeks_168 (ex_getR dX9_weeks_169 flX9_7 (md_sh hB) (md_r1 hB) (ex_iconst (v := nI 3) dX9_weeks_172 rfl (ex_il11 dX9_weeks_173 (ex_imulN dX9_weeks_175 (ex_iconst (v := nI 1) dX9_weeks_176 rfl (ex_iaddN dX9_weeks_177 (ex_ildN dX9_weeks_178 (md_a1 hB) (by omega) (by omega) (ex_top (y := (g.1.1.2.2.1 i)) (by simp only [show ¬ B + 1 = B + 14 by omega, false_and, if_false]; rw [wr_oc (by omega)]; exact (hg2.1.2.2 i hi).2.2.1) (ex_iadd dX9_weeks_179 (ex_top (y := (g.2.1.2.2.1 i + nI (k + 1) * g.1.1.2.2.1 i)) (by rw [Int32.add_assoc, mul_s]) (ex_istN dX9_weeks_180 (md_a24 hB) (by omega) (by omega) (ex_inc11 dX9_weeks_181 (Nat.le_of_ble_eq_true rfl) rfl (inc1 _) (ex_goto (tgt := 149) dX9_weeks_184 rfl ?_))))))))))))))))))))))))))))
              refine ihi _ _ ⟨rfl, ?_⟩
              funext c j
              rw [show ∀ (A : MM) (x : Int32), wr A (B + 14) (2 + i) x c j = if c = B + 14 then (if j = 2 + i then x else A (B + 14) j) else A c j from fun _ _ => rfl]
              by_cases hc : c = B + 14
              · subst hc
                by_cases hj : j = 2 + i
                · subst hj; simp
                · have e : (2 ≤ j ∧ j < 2 + (i + 1)) ↔ (2 ≤ j ∧ j < 2 + i) := by omega
                  simp [hj, e]
              · simp [hc]
            · intro ls M3 h
              obtain ⟨rfl, rfl⟩ := h
              refine (ex_il11 dX9_weeks_149 (ex_al0 dX9_weeks_151 (ex_getI dX9_weeks_152 flX9_85 (md_sh hB) (ex_top (y := nI (g.1.1.1)) (by simp only [show ¬ B = B + 14 by omega, false_and, if_false]; rw [wr_oc (by omega)]; exact hg2.1.1) (ex_icmp_geN (tgt := 187) dX9_weeks_155 rfl (by omega) (by omega) (fun c155 => (ex_inc6 dX9_weeks_187 (Nat.le_of_ble_eq_true rfl) rfl (inc1 _) (ex_goto (tgt := 45) dX9_weeks_190 rfl ?_))) (fun c155 => (absurd (Nat.le_refl _) c155)))))))
              refine ih _ _ ⟨⟨_, _, _, _, _, rfl⟩, ⟨hg2.of (fun k2 hk2 => ?_) (fun c h1 h2 => ?_), ?_, ?_, fun i hi => ?_⟩, fun c hc => ?_⟩
              · simp only [show ¬ B = B + 14 by omega, false_and, if_false]; rw [wr_oc (by omega)]
              · funext j; simp only [show ¬ c = B + 14 by omega, false_and, if_false]; rw [wr_oc (by omega)]
              · simp only [show ¬ (2 ≤ 0) by omega, false_and, and_false, if_false]; rw [wr_s, Nat.add_assoc]
              · simp only [show ¬ (2 ≤ 1) by omega, false_and, and_false, if_false]; rw [wr_oi (by omega), h14]; exact hk1
              · refine ⟨by simp [hi], ?_, ?_⟩
                · simp only [show ¬ (8 + i < 2 + g.1.1.1) by omega, and_false, if_false]; rw [wr_oi (by omega), h14]; exact (hki i hi).2.1
                · simp only [show ¬ (14 + i < 2 + g.1.1.1) by omega, and_false, if_false]; rw [wr_oi (by omega), h14]; exact (hki i hi).2.2
              · funext j; simp only [show ¬ c = B + 14 by omega, false_and, if_false]; rw [wr_oc (by omega), hfr2 c hc]
            · funext c j
              rw [if_neg (by omega)]
          have hcs : cnt (fun k => decide (wk k = g.1.2.1.1)) (k + 1) = cnt (fun k => decide (wk k = g.1.2.1.1)) k + (if decide (wk k = g.1.2.1.1) then 1 else 0) := rfl
          refine (ex_al0 dX9_weeks_99 (ex_il9 dX9_weeks_100 (ex_VP1 dX9_weeks_102 lkX9_184 (md_sh hB) ⟨_, _, rfl⟩ ⟨(Nat.le_of_ble_eq_true rfl), (Nat.le_of_ble_eq_true rfl)⟩ ⟨Nat.le_refl _, Nat.le_refl _⟩ (Nat.le_of_ble_eq_true rfl) (m_sureIn hB M2 g.1.2.1 hg2.2.1 _ hcr (drw z k) (drw_lt z k)) (ex_SP1 dX9_weeks_105 lkX9_218 ⟨(Nat.le_of_ble_eq_true rfl), (Nat.le_of_ble_eq_true rfl)⟩ ⟨Nat.le_refl _, Nat.le_refl _⟩ (Nat.le_of_ble_eq_true rfl) (m_bits _ _ _ _) (ex_top (y := nI ((wk k))) (by rw [cnt_bset (by omega) (by omega), hwk]; rfl) (ex_is10 dX9_weeks_108 (Nat.le_of_ble_eq_true rfl) rfl (ex_il4 dX9_weeks_110 (ex_il10 dX9_weeks_112 (ex_al0 dX9_weeks_114 (ex_getI dX9_weeks_115 flX9_92 (md_sh hB) (ex_top (hg2.2.1.1) (ex_icmp_neN (tgt := 125) dX9_weeks_118 rfl (by omega) (by omega) (fun c118 => ?_) (fun c118 => ?_)))))))))))))
          · refine (ex_iconst (v := nI 0) dX9_weeks_125 rfl (ex_iaddN dX9_weeks_126 (ex_is4 dX9_weeks_127 (Nat.le_of_ble_eq_true rfl) rfl ?_)))
            rw [show cnt (fun k => decide (wk k = g.1.2.1.1)) k + 0 = cnt (fun k => decide (wk k = g.1.2.1.1)) (k + 1) by rw [hcs]; simp [c118]]
            exact J none
          · refine (ex_iconst (v := nI 1) dX9_weeks_121 rfl (ex_goto (tgt := 126) dX9_weeks_122 rfl (ex_iaddN dX9_weeks_126 (ex_is4 dX9_weeks_127 (Nat.le_of_ble_eq_true rfl) rfl ?_))))
            rw [show cnt (fun k => decide (wk k = g.1.2.1.1)) k + 1 = cnt (fun k => decide (wk k = g.1.2.1.1)) (k + 1) by rw [hcs]; simp [c118]]
            exact J none
        · intro ls M' h
          obtain ⟨⟨o7, o8, o9, o10, o11, rfl⟩, hW, hfr⟩ := h
          rcases w01 c27 with rfl | rfl
          · refine (ex_il6 dX9_weeks_45 (ex_il2 dX9_weeks_47 (ex_icmp_geN (tgt := 193) dX9_weeks_48 rfl (by omega) (by omega) (fun c48 => (ex_il3 dX9_weeks_193 (ex_if_neN (tgt := 202) dX9_weeks_194 rfl (by omega) (fun c194 => (absurd rfl c194)) (fun c194 => (ex_il4 dX9_weeks_197 (ex_goto (tgt := 204) dX9_weeks_199 rfl (ex_ri dX9_weeks_204 rfl rfl (⟨by rw [if_pos rfl], hW.1, hfr⟩)))))))) (fun c48 => (absurd (Nat.le_refl _) c48)))))
          · refine (ex_il6 dX9_weeks_45 (ex_il2 dX9_weeks_47 (ex_icmp_geN (tgt := 193) dX9_weeks_48 rfl (by omega) (by omega) (fun c48 => (ex_il3 dX9_weeks_193 (ex_if_neN (tgt := 202) dX9_weeks_194 rfl (by omega) (fun c194 => (ex_il5 dX9_weeks_202 (ex_ri dX9_weeks_204 rfl rfl (⟨by rw [if_neg (by decide)], hW.1, hfr⟩)))) (fun c194 => (absurd c194 (by decide)))))) (fun c48 => (absurd (Nat.le_refl _) c48)))))
        · rw [asIs_now (by omega), asIs_now (by omega), asIs_now (by omega)]
          have e := hst.2.2 i hi
          simp only [Nat.zero_add] at e
          refine ⟨?_, e.2⟩
          rw [e.1, nI_0]; simp
      · exact J0 (by rw [c27]; simp)
