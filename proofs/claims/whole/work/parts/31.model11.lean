/-! the reference: who is behind by the stripes, odds, counts -/
theorem r_behind {sh : Sh} {Mr : MR} {B : Nat} (hB : MD sh Mr B) (M : MM) (g : Sg) (hg : RM B M g) (hv : sgV g) (w : Int32) : CtI mX9_behind [.ref B, .int w] sh Mr M (PM B M (d_behind g w)) := by
  have h6 := hv.1.1.1
  have h64 := pow6 h6
  have hl8 := hv.2.2.2.2.1.1
  have hpos : 1 ≤ 2 ^ g.1.1.1 := Nat.one_le_two_pow
  refine ct_of (mi := mX9_behind) (ls := [some (.ref B), some (.int w), none, none, none, none, none]) rfl rfl (Nat.le_of_ble_eq_true rfl) rfl ?_
  refine (ex_il1 dX9_behind_0 (ex_iconst (v := nI 0) dX9_behind_1 rfl (ex_iconst (v := nI 1) dX9_behind_2 rfl (ex_SP3 dX9_behind_3 lkX9_88 ⟨(Nat.le_of_ble_eq_true rfl), (Nat.le_of_ble_eq_true rfl)⟩ ⟨Nat.le_refl _, Nat.le_refl _⟩ (Nat.le_of_ble_eq_true rfl) (m_in _ _ _ _ _ _) (ex_ifB_ne (tgt := 11) dX9_behind_6 rfl (fun c6 => ?_) (fun c6 => ?_))))))
  · have hd : d_behind g w = (if w = nI 0 then nI (cnt (fit g.1 g.2.1 g.2.2.2.2.1) (2 ^ g.1.1.1)) else wN (fst (fit g.1 g.2.1 g.2.2.2.2.1) (2 ^ g.1.1.1)), g) := by simp [d_behind, c6]
    rw [hd]
    have hfit : ∀ m, fit g.1 g.2.1 g.2.2.2.2.1 m = allb (fun k => decide (cof g.1.1 (pl g.2.1) (fun i => !m.testBit i) (bt g.2.1.2.1) (g.2.2.2.2.1.2.1 k) = g.2.2.2.2.1.2.2 k)) g.2.2.2.2.1.1 := fun m => rfl
    generalize fit g.1 g.2.1 g.2.2.2.2.1 = p at hfit ⊢
    generalize hT : 2 ^ g.1.1.1 = T at h64 hpos
    refine (ex_al0 dX9_behind_11 (ex_VV0 dX9_behind_12 lkX9_190 (md_sh hB) ⟨_, _, rfl⟩ ⟨(Nat.le_of_ble_eq_true rfl), (Nat.le_of_ble_eq_true rfl)⟩ ⟨Nat.le_refl _, Nat.le_refl _⟩ (Nat.le_of_ble_eq_true rfl) (r_asItIs hB M g hg) (fun M12 h12 => ?_)))
    subst h12
    refine (ex_iconst (v := nI 0) dX9_behind_15 rfl (ex_is2 dX9_behind_16 (Nat.le_of_ble_eq_true rfl) rfl (ex_bipush (v := (-4)) dX9_behind_17 rfl (ex_is3 dX9_behind_19 (Nat.le_of_ble_eq_true rfl) rfl (ex_iconst (v := nI 1) dX9_behind_20 rfl (ex_al0 dX9_behind_21 (ex_getI dX9_behind_22 flX9_85 (md_sh hB) (ex_top (y := nI (g.1.1.1)) (by rw [asIs_B (by omega)]; exact hg.1.1) (ex_ishl dX9_behind_25 (ex_top (y := nI (T)) (by rw [shl1 _ h6, hT]) (ex_iconst (v := nI 1) dX9_behind_26 rfl (ex_isub dX9_behind_27 (ex_is4 dX9_behind_28 (Nat.le_of_ble_eq_true rfl) rfl ?_)))))))))))))
    refine ex_down (I := fun m ls M' => (∃ o5 o6, m ≤ T ∧ ls = [some (.ref B), some (.int w), some (.int (nI (cntd p m T))), some (.int (wN (lst p m T))), some (.int (nI m - nI 1)), o5, o6]) ∧ RM B M' g ∧ NowM B M' g.1.1.1 (pl g.2.1) ∧ M' (B + 14) 1 = g.2.1.2.1 ∧ ∀ c, c < B → M' c = M c) ?_ ?_ T _ _ ⟨⟨none, none, Nat.le_refl _, by rw [cntd_n, lst_n]; rfl⟩, asIs_RM hg, asIs_Now hg hv, by rw [asIs_now (by omega)]; exact hg.2.2.2.2.1.2.1, fun c hc => asIs_oc (by omega) (by omega)⟩
    · intro m ls M' h ih
      obtain ⟨⟨o5, o6, hm, rfl⟩, hg', hn', hs', hfr⟩ := h
      have hm : m < T := hm
      have hc64 := cntd_le p (m + 1) T
      rw [pk_sub (show 1 ≤ m + 1 by omega), Nat.add_sub_cancel]
      have hli : ∀ j, j < g.1.1.1 → (!bt (wr M' B 25 (nI m) B 25) j) = !m.testBit j := fun j hj => by rw [wr_s, bt_nI m j (by omega)]
      have hw := wr_RM (x := nI m) hg' (Or.inl rfl)
      refine (ex_il4 dX9_behind_30 (ex_if_lt (tgt := 137) dX9_behind_32 rfl (fun c32 => (absurd c32 (nI_pos (by omega)))) (fun c32 => (ex_al0 dX9_behind_35 (ex_il4 dX9_behind_36 (ex_putI dX9_behind_38 (fpX9_161 _) (md_sh hB) (ex_al0 dX9_behind_41 (ex_VV0 dX9_behind_42 lkX9_199 (md_sh hB) ⟨_, _, rfl⟩ ⟨(Nat.le_of_ble_eq_true rfl), (Nat.le_of_ble_eq_true rfl)⟩ ⟨Nat.le_refl _, Nat.le_refl _⟩ (Nat.le_of_ble_eq_true rfl) (m_nS hB _ g hw hv (pl g.2.1) (hn'.of (wr_oc (by omega))) _ (bt g.2.1.2.1) hli (by rw [wr_oc (by omega), hs'])) (fun M42 h42 => ?_)))))))))
      subst h42
      have hg2 := pnt_RM (w := who g.1.1 (pl g.2.1) (fun i => !m.testBit i)) (cl := cof g.1.1 (pl g.2.1) (fun i => !m.testBit i) (bt g.2.1.2.1)) hw
      have hcr := cof_row (B := B) (M := wr M' B 25 (nI m)) hv (w := who g.1.1 (pl g.2.1) (fun i => !m.testBit i)) (p := pl g.2.1) (li := fun i => !m.testBit i) (sm := bt g.2.1.2.1)
      have h14 : pnt (wr M' B 25 (nI m)) B (who g.1.1 (pl g.2.1) (fun i => !m.testBit i)) (cof g.1.1 (pl g.2.1) (fun i => !m.testBit i) (bt g.2.1.2.1)) 24 (B + 14) = M' (B + 14) := by rw [pnt_oc (by omega) (by omega), wr_oc (by omega)]
      have hfr2 : ∀ c, c < B → pnt (wr M' B 25 (nI m)) B (who g.1.1 (pl g.2.1) (fun i => !m.testBit i)) (cof g.1.1 (pl g.2.1) (fun i => !m.testBit i) (bt g.2.1.2.1)) 24 c = M c := fun c hc => by rw [pnt_oc (by omega) (by omega), wr_oc (by omega)]; exact hfr c hc
      generalize pnt (wr M' B 25 (nI m)) B (who g.1.1 (pl g.2.1) (fun i => !m.testBit i)) (cof g.1.1 (pl g.2.1) (fun i => !m.testBit i) (bt g.2.1.2.1)) 24 = M2 at hg2 hcr h14 hfr2 ⊢
      have hpm := hfit m
      generalize hq : (fun k => decide (cof g.1.1 (pl g.2.1) (fun i => !m.testBit i) (bt g.2.1.2.1) (g.2.2.2.2.1.2.1 k) = g.2.2.2.2.1.2.2 k)) = q at hpm
      refine (ex_iconst (v := nI 1) dX9_behind_45 rfl (ex_is5 dX9_behind_46 (Nat.le_of_ble_eq_true rfl) rfl (ex_iconst (v := nI 0) dX9_behind_48 rfl (ex_is6 dX9_behind_49 (Nat.le_of_ble_eq_true rfl) rfl ?_))))
      refine ex_for (I := fun k ls M'' => ls = [some (.ref B), some (.int w), some (.int (nI (cntd p (m + 1) T))), some (.int (wN (lst p (m + 1) T))), some (.int (nI m)), some (.int (bI (allb q k))), some (.int (nI k))] ∧ M'' = M2) g.2.2.2.2.1.1 ?_ ?_ 0 _ _ (Nat.zero_le _) ⟨rfl, rfl⟩
      · intro k ls M'' hk h ihk
        obtain ⟨rfl, rfl⟩ := h
        obtain ⟨l1, l2⟩ := hg2.2.2.2.2.2.2.2.1.2 k hk
        obtain ⟨v1, v2⟩ := hv.2.2.2.2.1.2 k hk
        obtain ⟨r1, r2⟩ := hcr _ v1
        have hqk : q k = decide (cof g.1.1 (pl g.2.1) (fun i => !m.testBit i) (bt g.2.1.2.1) (g.2.2.2.2.1.2.1 k) = g.2.2.2.2.1.2.2 k) := by rw [← hq]
        have hall : allb q (k + 1) = (allb q k && q k) := rfl
        have J : EI mX9_behind sh Mr (PM B M (if w = nI 0 then nI (cnt p T) else wN (fst p T), g)) 98 [some (.ref B), some (.int w), some (.int (nI (cntd p (m + 1) T))), some (.int (wN (lst p (m + 1) T))), some (.int (nI m)), some (.int (bI (allb q k))), some (.int (nI k))] [.int (bI (allb q (k + 1)))] M'' := by
          refine (ex_is5 dX9_behind_98 (Nat.le_of_ble_eq_true rfl) rfl (ex_inc6 dX9_behind_100 (Nat.le_of_ble_eq_true rfl) rfl (inc1 _) (ex_goto (tgt := 51) dX9_behind_103 rfl ?_)))
          exact ihk _ _ ⟨rfl, rfl⟩
        refine (ex_il6 dX9_behind_51 (ex_al0 dX9_behind_53 (ex_getI dX9_behind_54 flX9_155 (md_sh hB) (ex_top (hg2.2.2.2.2.2.2.2.1.1) (ex_icmp_geN (tgt := 106) dX9_behind_57 rfl (by omega) (by omega) (fun c57 => (absurd c57 (by omega))) (fun c57 => (ex_il5 dX9_behind_60 (ex_ifB_eq (tgt := 97) dX9_behind_62 rfl (fun c62 => ?_) (fun c62 => ?_)))))))))
        · refine (ex_iconst (v := nI 0) dX9_behind_97 rfl ?_)
          exact ex_top (bI_ff (by rw [hall, c62]; rfl)) J
        · refine (ex_al0 dX9_behind_65 (ex_getR dX9_behind_66 flX9_55 (md_sh hB) (md_r27 hB) (ex_al0 dX9_behind_69 (ex_getR dX9_behind_70 flX9_28 (md_sh hB) (md_r12 hB) (ex_iconst (v := nI 2) dX9_behind_73 rfl (ex_il6 dX9_behind_74 (ex_imulN dX9_behind_76 (ex_ildN dX9_behind_77 (md_a12 hB) (by omega) (by omega) (ex_top (l1) (ex_ildN dX9_behind_78 (md_a27 hB) (by omega) (v1) (ex_top (r1) (ex_al0 dX9_behind_79 (ex_getR dX9_behind_80 flX9_28 (md_sh hB) (md_r12 hB) (ex_iconst (v := nI 2) dX9_behind_83 rfl (ex_il6 dX9_behind_84 (ex_imulN dX9_behind_86 (ex_iconst (v := nI 1) dX9_behind_87 rfl (ex_iaddN dX9_behind_88 (ex_ildN dX9_behind_89 (md_a12 hB) (by omega) (by omega) (ex_top (l2) (ex_icmp_neN (tgt := 97) dX9_behind_90 rfl (by omega) (by omega) (fun c90 => ?_) (fun c90 => ?_))))))))))))))))))))))
          · refine (ex_iconst (v := nI 0) dX9_behind_97 rfl ?_)
            exact ex_top (bI_ff (by rw [hall, hqk]; simp [c90])) J
          · refine (ex_iconst (v := nI 1) dX9_behind_93 rfl (ex_goto (tgt := 98) dX9_behind_94 rfl ?_))
            exact ex_top (bI_tt (by rw [hall, hqk, c62]; simp [c90])) J
      · intro ls M'' h
        obtain ⟨rfl, rfl⟩ := h
        rw [← hpm]
        refine (ex_il6 dX9_behind_51 (ex_al0 dX9_behind_53 (ex_getI dX9_behind_54 flX9_155 (md_sh hB) (ex_top (hg2.2.2.2.2.2.2.2.1.1) (ex_icmp_geN (tgt := 106) dX9_behind_57 rfl (by omega) (by omega) (fun c57 => (ex_il2 dX9_behind_106 (ex_il5 dX9_behind_107 (ex_ifB_eq (tgt := 116) dX9_behind_109 rfl (fun c109 => ?_) (fun c109 => ?_))))) (fun c57 => (absurd (Nat.le_refl _) c57)))))))
        · refine (ex_iconst (v := nI 0) dX9_behind_116 rfl (ex_iaddN dX9_behind_117 (ex_is2 dX9_behind_118 (Nat.le_of_ble_eq_true rfl) rfl (ex_il5 dX9_behind_119 (ex_ifB_eq (tgt := 129) dX9_behind_121 rfl (fun c121 => (ex_il3 dX9_behind_129 (ex_is3 dX9_behind_130 (Nat.le_of_ble_eq_true rfl) rfl (ex_inc4 dX9_behind_131 (Nat.le_of_ble_eq_true rfl) rfl (dec1s m) (ex_goto (tgt := 30) dX9_behind_134 rfl ?_))))) (fun c121 => (absurd c109 (by rw [c121]; decide))))))))
          refine ih _ _ ⟨⟨some (.int (bI (p m))), some (.int (nI g.2.2.2.2.1.1)), by omega, ?_⟩, hg2, hn'.of h14, by rw [h14]; exact hs', hfr2⟩
          rw [cntd_s hm, lst_sN hm, c109]; rfl
        · refine (ex_iconst (v := nI 1) dX9_behind_112 rfl (ex_goto (tgt := 117) dX9_behind_113 rfl (ex_iaddN dX9_behind_117 (ex_is2 dX9_behind_118 (Nat.le_of_ble_eq_true rfl) rfl (ex_il5 dX9_behind_119 (ex_ifB_eq (tgt := 129) dX9_behind_121 rfl (fun c121 => (absurd c121 (by rw [c109]; decide))) (fun c121 => (ex_il4 dX9_behind_124 (ex_goto (tgt := 130) dX9_behind_126 rfl (ex_is3 dX9_behind_130 (Nat.le_of_ble_eq_true rfl) rfl (ex_inc4 dX9_behind_131 (Nat.le_of_ble_eq_true rfl) rfl (dec1s m) (ex_goto (tgt := 30) dX9_behind_134 rfl ?_))))))))))))
          refine ih _ _ ⟨⟨some (.int (bI (p m))), some (.int (nI g.2.2.2.2.1.1)), by omega, ?_⟩, hg2, hn'.of h14, by rw [h14]; exact hs', hfr2⟩
          rw [cntd_s hm, lst_sN hm, c109]; rfl
    · intro ls M' h
      obtain ⟨⟨o5, o6, hm, rfl⟩, hg', hn', hs', hfr⟩ := h
      rw [cntd_0, lst_0]
      rcases w01 c6 with rfl | rfl
      · refine (ex_il4 dX9_behind_30 (ex_if_lt (tgt := 137) dX9_behind_32 rfl (fun c32 => (ex_il1 dX9_behind_137 (ex_if_neN (tgt := 145) dX9_behind_138 rfl (by omega) (fun c138 => (absurd rfl c138)) (fun c138 => (ex_il2 dX9_behind_141 (ex_goto (tgt := 146) dX9_behind_142 rfl (ex_ri dX9_behind_146 rfl rfl (⟨by rw [if_pos rfl], hg', hfr⟩)))))))) (fun c32 => (absurd (by decide) c32))))
      · refine (ex_il4 dX9_behind_30 (ex_if_lt (tgt := 137) dX9_behind_32 rfl (fun c32 => (ex_il1 dX9_behind_137 (ex_if_neN (tgt := 145) dX9_behind_138 rfl (by omega) (fun c138 => (ex_il3 dX9_behind_145 (ex_ri dX9_behind_146 rfl rfl (⟨by rw [if_neg (by decide)], hg', hfr⟩)))) (fun c138 => (absurd c138 (by decide)))))) (fun c32 => (absurd (by decide) c32))))
  · refine (ex_iconst (v := (-1)) dX9_behind_9 rfl (ex_ri dX9_behind_10 rfl rfl (⟨by simp [d_behind, c6], hg, fun _ _ => rfl⟩)))
theorem smN_s (f : Nat → Nat) (n : Nat) : smN f (n + 1) = smN f n + f n := rfl
theorem m_tenths {sh : Sh} {Mr : MR} {B : Nat} (hB : MD sh Mr B) (M : MM) (g : Sg) (hg : RM B M g) (hv : sgV g) (cl : Nat → Nat) (hcl : ∀ s, s < 24 → M (B + 16) s = nI (cl s) ∧ cl s ≤ 4) (k : Nat) (hk : k < g.1.2.1.1) : CtP mX9_tenths [.ref B, .int (nI k)] sh Mr M (nI (tth g.1 cl k)) := by
  have h5 := hv.1.2.1.1
  have h10 := hv.1.2.2
  have htt : tth g.1 cl k = smN (fun f => if sur cl g.1.2.1 f k then g.1.2.2.1 f else 0) 4 := rfl
  refine ct_of (mi := mX9_tenths) (ls := [some (.ref B), some (.int (nI k)), none, none]) rfl rfl (Nat.le_of_ble_eq_true rfl) rfl ?_
  refine (ex_iconst (v := nI 0) dX9_tenths_0 rfl (ex_is2 dX9_tenths_1 (Nat.le_of_ble_eq_true rfl) rfl (ex_iconst (v := nI 0) dX9_tenths_2 rfl (ex_is3 dX9_tenths_3 (Nat.le_of_ble_eq_true rfl) rfl ?_))))
  refine ex_for (I := fun f ls M' => ls = [some (.ref B), some (.int (nI k)), some (.int (nI (smN (fun f => if sur cl g.1.2.1 f k then g.1.2.2.1 f else 0) f))), some (.int (nI f))] ∧ M' = M) 4 ?_ ?_ 0 _ _ (Nat.zero_le _) ⟨rfl, rfl⟩
  · intro f ls M' hf h ih
    obtain ⟨rfl, rfl⟩ := h
    have hneg := wI_neg (o := sgn cl (seb (g.1.2.1.2.1 k) (g.1.2.1.2.2 k)) f) (fun i h => by have := sgn_lt h; omega)
    refine (ex_il3 dX9_tenths_4 (ex_iconst (v := nI 4) dX9_tenths_5 rfl (ex_icmp_geN (tgt := 37) dX9_tenths_6 rfl (by omega) (by omega) (fun c6 => (absurd c6 (by omega))) (fun c6 => (ex_il2 dX9_tenths_9 (ex_al0 dX9_tenths_10 (ex_il1 dX9_tenths_11 (ex_il3 dX9_tenths_12 (ex_VP2 dX9_tenths_13 lkX9_180 (md_sh hB) ⟨_, _, rfl⟩ ⟨(Nat.le_of_ble_eq_true rfl), (Nat.le_of_ble_eq_true rfl)⟩ ⟨Nat.le_refl _, Nat.le_refl _⟩ (Nat.le_of_ble_eq_true rfl) (m_signOf hB M' g.1.2.1 hg.2.1 cl hcl k f hk hf) (ex_if_lt (tgt := 28) dX9_tenths_16 rfl (fun c16 => ?_) (fun c16 => ?_)))))))))))
    · have hz : sur cl g.1.2.1 f k = false := by unfold sur; rw [hneg.mp c16]; rfl
      refine (ex_iconst (v := nI 0) dX9_tenths_28 rfl (ex_iaddN dX9_tenths_29 (ex_is2 dX9_tenths_30 (Nat.le_of_ble_eq_true rfl) rfl (ex_inc3 dX9_tenths_31 (Nat.le_of_ble_eq_true rfl) rfl (inc1 _) (ex_goto (tgt := 4) dX9_tenths_34 rfl ?_)))))
      refine ih _ _ ⟨?_, rfl⟩
      rw [smN_s, hz]; rfl
    · have hz : sur cl g.1.2.1 f k = true := by unfold sur; cases hq : sgn cl (seb (g.1.2.1.2.1 k) (g.1.2.1.2.2 k)) f; exact absurd (hneg.mpr hq) c16; rfl
      refine (ex_al0 dX9_tenths_19 (ex_getR dX9_tenths_20 flX9_16 (md_sh hB) (md_r4 hB) (ex_il3 dX9_tenths_23 (ex_ildN dX9_tenths_24 (md_a4 hB) (by omega) (by omega) (ex_top (hg.2.2.1 f hf) (ex_goto (tgt := 29) dX9_tenths_25 rfl (ex_iaddN dX9_tenths_29 (ex_is2 dX9_tenths_30 (Nat.le_of_ble_eq_true rfl) rfl (ex_inc3 dX9_tenths_31 (Nat.le_of_ble_eq_true rfl) rfl (inc1 _) (ex_goto (tgt := 4) dX9_tenths_34 rfl ?_))))))))))
      refine ih _ _ ⟨?_, rfl⟩
      rw [smN_s, hz]; rfl
  · intro ls M' h
    obtain ⟨rfl, rfl⟩ := h
    refine (ex_il3 dX9_tenths_4 (ex_iconst (v := nI 4) dX9_tenths_5 rfl (ex_icmp_geN (tgt := 37) dX9_tenths_6 rfl (by omega) (by omega) (fun c6 => (ex_il2 dX9_tenths_37 (ex_ri dX9_tenths_38 rfl rfl (⟨by rw [htt], rfl⟩)))) (fun c6 => (absurd (Nat.le_refl 4) c6)))))
theorem m_lowest (a : Nat) (ha : a ≤ 1000) (w : Int32) (hw : inB w (nI 0) (nI 1) = true) (sh : Sh) (Mr : MR) (M : MM) : CtP mX9_lowest [.int (nI a), .int (nI 10), .int w] sh Mr M (low a w) := by
  refine ct_of (mi := mX9_lowest) (ls := [some (.int (nI a)), some (.int (nI 10)), some (.int w), none, none, none]) rfl rfl (Nat.le_of_ble_eq_true rfl) rfl ?_
  refine (ex_il0 dX9_lowest_0 (ex_is3 dX9_lowest_1 (Nat.le_of_ble_eq_true rfl) rfl (ex_il1 dX9_lowest_2 (ex_is4 dX9_lowest_3 (Nat.le_of_ble_eq_true rfl) rfl ?_))))
  refine ex_meas (I := fun z ls M' => (∃ y o5, y ≤ 1000 ∧ z ≤ 1000 ∧ (0 < y ∨ 0 < z) ∧ Nat.gcd y z = Nat.gcd a 10 ∧ ls = [some (.int (nI a)), some (.int (nI 10)), some (.int w), some (.int (nI y)), some (.int (nI z)), o5]) ∧ M' = M) ?_ 10 _ _ ⟨⟨a, none, ha, by omega, by omega, rfl, rfl⟩, rfl⟩
  intro z ls M' h ih
  obtain ⟨⟨y, o5, hy, hz, hyz, hgc, rfl⟩, rfl⟩ := h
  by_cases h0 : z = 0
  · subst h0
    rw [Nat.gcd_zero_right] at hgc
    have hy0 : 0 < y := by omega
    rcases w01 hw with rfl | rfl
    · refine (ex_il4 dX9_lowest_5 (ex_if_le (tgt := 26) dX9_lowest_7 rfl (fun c7 => (ex_il2 dX9_lowest_26 (ex_if_neN (tgt := 34) dX9_lowest_27 rfl (by omega) (fun c27 => (absurd rfl c27)) (fun c27 => (ex_il0 dX9_lowest_30 (ex_goto (tgt := 35) dX9_lowest_31 rfl (ex_il3 dX9_lowest_35 (ex_idivN dX9_lowest_36 ⟨by omega, by omega, by omega⟩ (ex_ri dX9_lowest_37 rfl rfl (⟨by rw [hgc]; simp [low], rfl⟩)))))))))) (fun c7 => (absurd (by decide) c7))))
    · refine (ex_il4 dX9_lowest_5 (ex_if_le (tgt := 26) dX9_lowest_7 rfl (fun c7 => (ex_il2 dX9_lowest_26 (ex_if_neN (tgt := 34) dX9_lowest_27 rfl (by omega) (fun c27 => (ex_il1 dX9_lowest_34 (ex_il3 dX9_lowest_35 (ex_idivN dX9_lowest_36 ⟨by omega, by omega, by omega⟩ (ex_ri dX9_lowest_37 rfl rfl (⟨by rw [hgc]; simp [low, show ¬ nI 1 = nI 0 by decide], rfl⟩)))))) (fun c27 => (absurd c27 (by decide)))))) (fun c7 => (absurd (by decide) c7))))
  · refine (ex_il4 dX9_lowest_5 (ex_if_le (tgt := 26) dX9_lowest_7 rfl (fun c7 => (absurd c7 (nI_nle (by omega) (by omega)))) (fun c7 => (ex_il3 dX9_lowest_10 (ex_il4 dX9_lowest_11 (ex_iremN dX9_lowest_13 ⟨by omega, by omega, by omega⟩ (ex_is5 dX9_lowest_14 (Nat.le_of_ble_eq_true rfl) rfl (ex_il4 dX9_lowest_16 (ex_is3 dX9_lowest_18 (Nat.le_of_ble_eq_true rfl) rfl (ex_il5 dX9_lowest_19 (ex_is4 dX9_lowest_21 (Nat.le_of_ble_eq_true rfl) rfl (ex_goto (tgt := 5) dX9_lowest_23 rfl ?_))))))))))))
    have hlt : y % z < z := Nat.mod_lt y (by omega)
    refine ih (y % z) _ _ hlt ⟨⟨z, some (.int (nI (y % z))), hz, by omega, by omega, ?_, rfl⟩, rfl⟩
    rw [← hgc, Nat.gcd_comm y z, Nat.gcd_rec z y, Nat.gcd_comm]
theorem tth_le {g : Sg} (hv : sgV g) (cl : Nat → Nat) (k : Nat) : tth g.1 cl k ≤ 10 := by
  have h10 := hv.1.2.2
  unfold tth
  simp only [smN]
  split <;> split <;> split <;> split <;> omega
theorem r_odds {sh : Sh} {Mr : MR} {B : Nat} (hB : MD sh Mr B) (M : MM) (g : Sg) (hg : RM B M g) (hv : sgV g) (k w : Int32) : CtI mX9_odds [.ref B, .int k, .int w] sh Mr M (PM B M (d_odds g k w)) := by
  have h5 := hv.1.2.1.1
  refine ct_of (mi := mX9_odds) (ls := [some (.ref B), some (.int k), some (.int w)]) rfl rfl (Nat.le_of_ble_eq_true rfl) rfl ?_
  refine (ex_al0 dX9_odds_0 (ex_il1 dX9_odds_1 (ex_VP1 dX9_odds_2 lkX9_193 (md_sh hB) ⟨_, _, rfl⟩ ⟨(Nat.le_of_ble_eq_true rfl), (Nat.le_of_ble_eq_true rfl)⟩ ⟨Nat.le_refl _, Nat.le_refl _⟩ (Nat.le_of_ble_eq_true rfl) (m_isS hB M g hg k) (ex_ifB_eq (tgt := 17) dX9_odds_5 rfl (fun c5 => ?_) (fun c5 => ?_)))))
  · refine (ex_iconst (v := (-1)) dX9_odds_17 rfl (ex_ri dX9_odds_18 rfl rfl (⟨by simp [d_odds, c5], hg, fun _ _ => rfl⟩)))
  · refine (ex_il2 dX9_odds_8 (ex_iconst (v := nI 0) dX9_odds_9 rfl (ex_iconst (v := nI 1) dX9_odds_10 rfl (ex_SP3 dX9_odds_11 lkX9_88 ⟨(Nat.le_of_ble_eq_true rfl), (Nat.le_of_ble_eq_true rfl)⟩ ⟨Nat.le_refl _, Nat.le_refl _⟩ (Nat.le_of_ble_eq_true rfl) (m_in _ _ _ _ _ _) (ex_ifB_ne (tgt := 19) dX9_odds_14 rfl (fun c14 => ?_) (fun c14 => ?_))))))
    · obtain ⟨k, hk, rfl⟩ := isS_nat hv c5
      have htl := tth_le hv (cl0 g.1 g.2.1) k
      refine (ex_al0 dX9_odds_19 (ex_VV0 dX9_odds_20 lkX9_190 (md_sh hB) ⟨_, _, rfl⟩ ⟨(Nat.le_of_ble_eq_true rfl), (Nat.le_of_ble_eq_true rfl)⟩ ⟨Nat.le_refl _, Nat.le_refl _⟩ (Nat.le_of_ble_eq_true rfl) (r_asItIs hB M g hg) (fun M20 h20 => ?_)))
      subst h20
      refine (ex_al0 dX9_odds_23 (ex_VV0 dX9_odds_24 lkX9_199 (md_sh hB) ⟨_, _, rfl⟩ ⟨(Nat.le_of_ble_eq_true rfl), (Nat.le_of_ble_eq_true rfl)⟩ ⟨Nat.le_refl _, Nat.le_refl _⟩ (Nat.le_of_ble_eq_true rfl) (r_paint hB M g hg hv) (fun M24 h24 => ?_)))
      subst h24
      refine (ex_al0 dX9_odds_27 (ex_il1 dX9_odds_28 (ex_VP1 dX9_odds_29 lkX9_221 (md_sh hB) ⟨_, _, rfl⟩ ⟨(Nat.le_of_ble_eq_true rfl), (Nat.le_of_ble_eq_true rfl)⟩ ⟨Nat.le_refl _, Nat.le_refl _⟩ (Nat.le_of_ble_eq_true rfl) (m_tenths hB _ g (lgt_RM hg) hv (cl0 g.1 g.2.1) (cl_row hv) k hk) (ex_bipush (v := nI 10) dX9_odds_32 rfl (ex_il2 dX9_odds_34 (ex_SP3 dX9_odds_35 lkX9_224 ⟨(Nat.le_of_ble_eq_true rfl), (Nat.le_of_ble_eq_true rfl)⟩ ⟨Nat.le_refl _, Nat.le_refl _⟩ (Nat.le_of_ble_eq_true rfl) (m_lowest _ (by omega) w c14 _ _ _) (ex_ri dX9_odds_38 rfl rfl (⟨by simp [d_odds, c5, c14, cN_nI (show k < 2 ^ 31 by omega)], lgt_RM hg, fun c hc => lgt_oc (Or.inl hc)⟩))))))))
    · refine (ex_iconst (v := (-1)) dX9_odds_17 rfl (ex_ri dX9_odds_18 rfl rfl (⟨by simp [d_odds, c14], hg, fun _ _ => rfl⟩)))
theorem r_mean {sh : Sh} {Mr : MR} {B : Nat} (hB : MD sh Mr B) (M : MM) (g : Sg) (hg : RM B M g) (hv : sgV g) (w : Int32) : CtI mX9_mean [.ref B, .int w] sh Mr M (PM B M (d_mean g w)) := by
  have h5 := hv.1.2.1.1
  refine ct_of (mi := mX9_mean) (ls := [some (.ref B), some (.int w), none, none]) rfl rfl (Nat.le_of_ble_eq_true rfl) rfl ?_
  refine (ex_il1 dX9_mean_0 (ex_iconst (v := nI 0) dX9_mean_1 rfl (ex_iconst (v := nI 1) dX9_mean_2 rfl (ex_SP3 dX9_mean_3 lkX9_88 ⟨(Nat.le_of_ble_eq_true rfl), (Nat.le_of_ble_eq_true rfl)⟩ ⟨Nat.le_refl _, Nat.le_refl _⟩ (Nat.le_of_ble_eq_true rfl) (m_in _ _ _ _ _ _) (ex_ifB_ne (tgt := 11) dX9_mean_6 rfl (fun c6 => ?_) (fun c6 => ?_))))))
  · refine (ex_al0 dX9_mean_11 (ex_VV0 dX9_mean_12 lkX9_190 (md_sh hB) ⟨_, _, rfl⟩ ⟨(Nat.le_of_ble_eq_true rfl), (Nat.le_of_ble_eq_true rfl)⟩ ⟨Nat.le_refl _, Nat.le_refl _⟩ (Nat.le_of_ble_eq_true rfl) (r_asItIs hB M g hg) (fun M12 h12 => ?_)))
    subst h12
    refine (ex_al0 dX9_mean_15 (ex_VV0 dX9_mean_16 lkX9_199 (md_sh hB) ⟨_, _, rfl⟩ ⟨(Nat.le_of_ble_eq_true rfl), (Nat.le_of_ble_eq_true rfl)⟩ ⟨Nat.le_refl _, Nat.le_refl _⟩ (Nat.le_of_ble_eq_true rfl) (r_paint hB M g hg hv) (fun M16 h16 => (ex_iconst (v := nI 0) dX9_mean_19 rfl (ex_is2 dX9_mean_20 (Nat.le_of_ble_eq_true rfl) rfl (ex_iconst (v := nI 0) dX9_mean_21 rfl (ex_is3 dX9_mean_22 (Nat.le_of_ble_eq_true rfl) rfl ?_)))))))
    subst h16
    refine ex_for (I := fun k ls M' => ls = [some (.ref B), some (.int w), some (.int (nI (smN (tth g.1 (cl0 g.1 g.2.1)) k))), some (.int (nI k))] ∧ M' = lgt B g M) g.1.2.1.1 ?_ ?_ 0 _ _ (Nat.zero_le _) ⟨rfl, rfl⟩
    · intro k ls M' hk h ih
      obtain ⟨rfl, rfl⟩ := h
      refine (ex_il3 dX9_mean_23 (ex_al0 dX9_mean_24 (ex_getI dX9_mean_25 flX9_92 (md_sh hB) (ex_top ((lgt_RM hg).2.1.1) (ex_icmp_geN (tgt := 45) dX9_mean_28 rfl (by omega) (by omega) (fun c28 => (absurd c28 (by omega))) (fun c28 => (ex_il2 dX9_mean_31 (ex_al0 dX9_mean_32 (ex_il3 dX9_mean_33 (ex_VP1 dX9_mean_34 lkX9_221 (md_sh hB) ⟨_, _, rfl⟩ ⟨(Nat.le_of_ble_eq_true rfl), (Nat.le_of_ble_eq_true rfl)⟩ ⟨Nat.le_refl _, Nat.le_refl _⟩ (Nat.le_of_ble_eq_true rfl) (m_tenths hB _ g (lgt_RM hg) hv (cl0 g.1 g.2.1) (cl_row hv) k hk) (ex_iaddN dX9_mean_37 (ex_is2 dX9_mean_38 (Nat.le_of_ble_eq_true rfl) rfl (ex_inc3 dX9_mean_39 (Nat.le_of_ble_eq_true rfl) rfl (inc1 _) (ex_goto (tgt := 23) dX9_mean_42 rfl ?_))))))))))))))
      exact ih _ _ ⟨rfl, rfl⟩
    · intro ls M' h
      obtain ⟨rfl, rfl⟩ := h
      have hs := smN_le (b := 10) g.1.2.1.1 (fun k _ => tth_le hv (cl0 g.1 g.2.1) k)
      have hs2 : smN (tth g.1 (cl0 g.1 g.2.1)) g.1.2.1.1 ≤ 1000 := Nat.le_trans hs (by omega)
      refine (ex_il3 dX9_mean_23 (ex_al0 dX9_mean_24 (ex_getI dX9_mean_25 flX9_92 (md_sh hB) (ex_top ((lgt_RM hg).2.1.1) (ex_icmp_geN (tgt := 45) dX9_mean_28 rfl (by omega) (by omega) (fun c28 => (ex_il2 dX9_mean_45 (ex_bipush (v := nI 10) dX9_mean_46 rfl (ex_il1 dX9_mean_48 (ex_SP3 dX9_mean_49 lkX9_224 ⟨(Nat.le_of_ble_eq_true rfl), (Nat.le_of_ble_eq_true rfl)⟩ ⟨Nat.le_refl _, Nat.le_refl _⟩ (Nat.le_of_ble_eq_true rfl) (m_lowest _ hs2 w c6 _ _ _) (ex_ri dX9_mean_52 rfl rfl (⟨by simp [d_mean, c6], lgt_RM hg, fun c hc => lgt_oc (Or.inl hc)⟩))))))) (fun c28 => (absurd (Nat.le_refl _) c28)))))))
  · refine (ex_iconst (v := (-1)) dX9_mean_9 rfl (ex_ri dX9_mean_10 rfl rfl (⟨by simp [d_mean, c6], hg, fun _ _ => rfl⟩)))
