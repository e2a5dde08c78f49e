/-! the class: calls that light anew -/
/-- lit by li, panes smoked by smk -/
def LnX (M M' : MM) (g : Sg) : Prop := (∀ c, c < 80 ∨ 83 < c → M' c = M c) ∧ ShX M' g.1.1.1 (shn g.1.1 (pl g.2.1))
theorem LnX.R {M M' : MM} {L : Nat} {g : Sg} (h : LnX M M' g) (hL : L ≤ 15) (hg : RX M L g) : RX M' L g := hg.of (fun c hc => h.1 c (by omega))
theorem LnX.u {M M' : MM} {g : Sg} (h : LnX M M' g) : ∀ c, 94 ≤ c → M' c = M c := fun c hc => h.1 c (by omega)
theorem LtX.n {M M' : MM} {g : Sg} (h : LtX M M' g) : LnX M M' g := ⟨h.1, h.2.2⟩
theorem LnX.tr {M M1 M2 : MM} {g : Sg} (h : LnX M M1 g) (h2 : ∀ c, c ≠ 80 → c ≠ 82 → c ≠ 83 → M2 c = M1 c) : LnX M M2 g := ⟨fun c hc => (h2 c (by omega) (by omega) (by omega)).trans (h.1 c hc), fun i hi s hs => by rw [h2 81 (by omega) (by omega) (by omega)]; exact h.2 i hi s hs⟩
theorem x_byLight {sh : Sh} {Mr : MR} {L D : Nat} (hG : GX sh Mr L D) (M0 M : MM) (g : Sg) (hg : RX M0 L g) (hv : sgV g) (hn : LnX M0 M g) (t : Int32) (li : Nat → Bool) (hl : ∀ i, i < g.1.1.1 → bt t i = li i) (f : Nat) (hf : f < 4) : CtI mX8_sureByLightOf [.ref 0, .int t, .int (nI f)] sh Mr M (fun v M' => v = nI (nS g.1 g.2.1 li (bt g.2.1.2.1) f) ∧ LnX M0 M' g) := by
  have hL := GL hG
  have h5 := hv.1.2.1.1
  have hg1 := hn.R (by omega) hg
  refine ct_of (mi := mX8_sureByLightOf) (ls := [some (.ref 0), some (.int t), some (.int (nI f))]) rfl rfl (Nat.le_of_ble_eq_true rfl) rfl ?_
  refine (ex_al0 dX8_sureByLightOf_0 (ex_getR dX8_sureByLightOf_1 flX8_65 (gx0 hG) (gr0_9 hG) (ex_al0 dX8_sureByLightOf_4 (ex_getR dX8_sureByLightOf_5 flX8_26 (gx0 hG) (gr0_2 hG) (ex_il1 dX8_sureByLightOf_8 (ex_al0 dX8_sureByLightOf_9 (ex_getR dX8_sureByLightOf_10 flX8_36 (gx0 hG) (gr0_4 hG) (ex_getI dX8_sureByLightOf_13 flX8_151 (sa_sh (sa25 hG)) (ex_top (hg1.2.1.2.1) (ex_VV3 dX8_sureByLightOf_16 lkX8_236 (gx80 hG) ⟨_, _, rfl⟩ ⟨(Nat.le_of_ble_eq_true rfl), (Nat.le_of_ble_eq_true rfl)⟩ ⟨Nat.le_refl _, Nat.le_refl _⟩ (Nat.le_of_ble_eq_true rfl) (x_show hG M g.1 hg1.1 _ hn.2 li _ _ hl) (fun M16 h16 => ?_)))))))))))
  obtain ⟨f1, f2⟩ := h16
  have hn2 := hn.tr f1
  have hg2 := hn2.R (by omega) hg
  have hco : CoX M16 (cof g.1.1 (pl g.2.1) li (bt g.2.1.2.1)) := f2.2.2
  refine (ex_al0 dX8_sureByLightOf_19 (ex_getR dX8_sureByLightOf_20 flX8_65 (gx0 hG) (gr0_9 hG) (ex_al0 dX8_sureByLightOf_23 (ex_getR dX8_sureByLightOf_24 flX8_26 (gx0 hG) (gr0_2 hG) (ex_il2 dX8_sureByLightOf_27 (ex_VP2 dX8_sureByLightOf_28 lkX8_205 (gx80 hG) ⟨_, _, rfl⟩ ⟨(Nat.le_of_ble_eq_true rfl), (Nat.le_of_ble_eq_true rfl)⟩ ⟨Nat.le_refl _, Nat.le_refl _⟩ (Nat.le_of_ble_eq_true rfl) (x_sureShips hG M16 g.1 hg2.1 _ hco f hf) (ex_SP1 dX8_sureByLightOf_31 lkX8_222 ⟨(Nat.le_of_ble_eq_true rfl), (Nat.le_of_ble_eq_true rfl)⟩ ⟨Nat.le_refl _, Nat.le_refl _⟩ (Nat.le_of_ble_eq_true rfl) (x_bcs _ _ (by omega) _ _ _) (ex_ri dX8_sureByLightOf_34 rfl rfl (⟨rfl, hn2⟩)))))))))
theorem s_row {sh : Sh} {Mr : MR} {L D : Nat} (hG : GX sh Mr L D) (M : MM) (g : Sg) (hg : RX M L g) (hv : sgV g) (a b c w : Int32) : CtI mX8_row [.ref 0, .int a, .int b, .int c, .int w] sh Mr M (PX L M (d_row g a b c w)) := by
  have hL := GL hG
  have J0 : (isC a && (isC b && (isC c && inB w (nI 0) (nI 1)))) = false → EI mX8_row sh Mr (PX L M (d_row g a b c w)) 31 [some (.ref 0), some (.int a), some (.int b), some (.int c), some (.int w), none, none, none] [] M := by
    intro h
    refine (ex_iconst (v := (-1)) dX8_row_31 rfl (ex_ri dX8_row_32 rfl rfl (⟨by simp [d_row, h], hg, fun _ _ => rfl⟩)))
  refine ct_of (mi := mX8_row) (ls := [some (.ref 0), some (.int a), some (.int b), some (.int c), some (.int w), none, none, none]) rfl rfl (Nat.le_of_ble_eq_true rfl) rfl ?_
  refine (ex_il1 dX8_row_0 (ex_SP1 dX8_row_1 lkX8_243 ⟨(Nat.le_of_ble_eq_true rfl), (Nat.le_of_ble_eq_true rfl)⟩ ⟨Nat.le_refl _, Nat.le_refl _⟩ (Nat.le_of_ble_eq_true rfl) (x_isCol _ _ _ _) (ex_ifB_eq (tgt := 31) dX8_row_4 rfl (fun c4 => ?_) (fun c4 => ?_))))
  · exact J0 (by rw [c4]; rfl)
  · refine (ex_il2 dX8_row_7 (ex_SP1 dX8_row_8 lkX8_243 ⟨(Nat.le_of_ble_eq_true rfl), (Nat.le_of_ble_eq_true rfl)⟩ ⟨Nat.le_refl _, Nat.le_refl _⟩ (Nat.le_of_ble_eq_true rfl) (x_isCol _ _ _ _) (ex_ifB_eq (tgt := 31) dX8_row_11 rfl (fun c11 => ?_) (fun c11 => ?_))))
    · exact J0 (by rw [c11]; simp)
    · refine (ex_il3 dX8_row_14 (ex_SP1 dX8_row_15 lkX8_243 ⟨(Nat.le_of_ble_eq_true rfl), (Nat.le_of_ble_eq_true rfl)⟩ ⟨Nat.le_refl _, Nat.le_refl _⟩ (Nat.le_of_ble_eq_true rfl) (x_isCol _ _ _ _) (ex_ifB_eq (tgt := 31) dX8_row_18 rfl (fun c18 => ?_) (fun c18 => ?_))))
      · exact J0 (by rw [c18]; simp)
      · refine (ex_il4 dX8_row_21 (ex_iconst (v := nI 0) dX8_row_23 rfl (ex_iconst (v := nI 1) dX8_row_24 rfl (ex_SP3 dX8_row_25 lkX8_103 ⟨(Nat.le_of_ble_eq_true rfl), (Nat.le_of_ble_eq_true rfl)⟩ ⟨Nat.le_refl _, Nat.le_refl _⟩ (Nat.le_of_ble_eq_true rfl) (x_within _ _ _ _ _ _) (ex_ifB_ne (tgt := 33) dX8_row_28 rfl (fun c28 => ?_) (fun c28 => ?_))))))
        · have hd : d_row g a b c w = (if w = nI 0 then nI (cnt (rwP (cl0 g.1 g.2.1) a b c) 24) else wN (fst (rwP (cl0 g.1 g.2.1) a b c) 24), g) := by unfold d_row; rw [c4, c11, c18, c28]; rfl
          rw [hd]
          have hrp : ∀ s, rwP (cl0 g.1 g.2.1) a b c s = (decide (nI (cl0 g.1 g.2.1 s) = a) && (decide (nI (cl0 g.1 g.2.1 ((s + 1) % 24)) = b) && decide (nI (cl0 g.1 g.2.1 ((s + 2) % 24)) = c))) := fun s => rfl
          generalize rwP (cl0 g.1 g.2.1) a b c = p at hrp ⊢
          refine (ex_al0 dX8_row_33 (ex_VV0 dX8_row_34 lkX8_154 (gx0 hG) ⟨_, _, rfl⟩ ⟨(Nat.le_of_ble_eq_true rfl), (Nat.le_of_ble_eq_true rfl)⟩ ⟨Nat.le_refl _, Nat.le_refl _⟩ (Nat.le_of_ble_eq_true rfl) (x_now hG M g hg hv) (fun M34 h34 => ?_)))
          have hg1 := h34.R (by omega) hg
          refine (ex_iconst (v := nI 0) dX8_row_37 rfl (ex_is5 dX8_row_38 (Nat.le_of_ble_eq_true rfl) rfl (ex_bipush (v := (-4)) dX8_row_40 rfl (ex_is6 dX8_row_42 (Nat.le_of_ble_eq_true rfl) rfl (ex_bipush (v := nI 23) dX8_row_44 rfl (ex_is7 dX8_row_46 (Nat.le_of_ble_eq_true rfl) rfl ?_))))))
          refine ex_down (I := fun i ls M' => (i ≤ 24 ∧ ls = [some (.ref 0), some (.int a), some (.int b), some (.int c), some (.int w), some (.int (nI (cntd p i 24))), some (.int (wN (lst p i 24))), some (.int (nI i - nI 1))]) ∧ M' = M34) ?_ ?_ 24 _ _ ⟨⟨Nat.le_refl _, by rw [cntd_n, lst_n]; rfl⟩, rfl⟩
          · intro s ls M' h ih
            obtain ⟨⟨hs, rfl⟩, rfl⟩ := h
            have hs : s < 24 := hs
            have hc24 := cntd_le p (s + 1) 24
            rw [pk_sub (show 1 ≤ s + 1 by omega), Nat.add_sub_cancel]
            have J : p s = false → EI mX8_row sh Mr (PX L M (if w = nI 0 then nI (cnt p 24) else wN (fst p 24), g)) 109 [some (.ref 0), some (.int a), some (.int b), some (.int c), some (.int w), some (.int (nI (cntd p (s + 1) 24))), some (.int (wN (lst p (s + 1) 24))), some (.int (nI s))] [] M' := by
              intro hp
              refine (ex_inc7 dX8_row_109 (Nat.le_of_ble_eq_true rfl) rfl (dec1s s) (ex_goto (tgt := 48) dX8_row_112 rfl ?_))
              refine ih _ _ ⟨⟨by omega, ?_⟩, rfl⟩
              rw [cntd_s hs, lst_sN hs, hp]; rfl
            refine (ex_il7 dX8_row_48 (ex_if_lt (tgt := 115) dX8_row_50 rfl (fun c50 => (absurd c50 (nI_pos (by omega)))) (fun c50 => (ex_al0 dX8_row_53 (ex_getR dX8_row_54 flX8_65 (gx0 hG) (gr0_9 hG) (ex_il7 dX8_row_57 (ex_VP1 dX8_row_59 lkX8_157 (gx80 hG) ⟨_, _, rfl⟩ ⟨(Nat.le_of_ble_eq_true rfl), (Nat.le_of_ble_eq_true rfl)⟩ ⟨Nat.le_refl _, Nat.le_refl _⟩ (Nat.le_of_ble_eq_true rfl) (x_colourAt hG M' _ h34.C s hs (cl0_le hv _)) (ex_il1 dX8_row_62 (ex_icmp_ne (tgt := 109) dX8_row_63 rfl (fun c63 => ?_) (fun c63 => ?_))))))))))
            · exact J (by rw [hrp]; simp [c63])
            · refine (ex_al0 dX8_row_66 (ex_getR dX8_row_67 flX8_65 (gx0 hG) (gr0_9 hG) (ex_il7 dX8_row_70 (ex_iconst (v := nI 1) dX8_row_72 rfl (ex_iaddN dX8_row_73 (ex_bipush (v := nI 24) dX8_row_74 rfl (ex_iremN dX8_row_76 ⟨by omega, by omega, by omega⟩ (ex_VP1 dX8_row_77 lkX8_157 (gx80 hG) ⟨_, _, rfl⟩ ⟨(Nat.le_of_ble_eq_true rfl), (Nat.le_of_ble_eq_true rfl)⟩ ⟨Nat.le_refl _, Nat.le_refl _⟩ (Nat.le_of_ble_eq_true rfl) (x_colourAt hG M' _ h34.C _ (Nat.mod_lt _ (by decide)) (cl0_le hv _)) (ex_il2 dX8_row_80 (ex_icmp_ne (tgt := 109) dX8_row_81 rfl (fun c81 => ?_) (fun c81 => ?_)))))))))))
              · exact J (by rw [hrp]; simp [c81])
              · refine (ex_al0 dX8_row_84 (ex_getR dX8_row_85 flX8_65 (gx0 hG) (gr0_9 hG) (ex_il7 dX8_row_88 (ex_iconst (v := nI 2) dX8_row_90 rfl (ex_iaddN dX8_row_91 (ex_bipush (v := nI 24) dX8_row_92 rfl (ex_iremN dX8_row_94 ⟨by omega, by omega, by omega⟩ (ex_VP1 dX8_row_95 lkX8_157 (gx80 hG) ⟨_, _, rfl⟩ ⟨(Nat.le_of_ble_eq_true rfl), (Nat.le_of_ble_eq_true rfl)⟩ ⟨Nat.le_refl _, Nat.le_refl _⟩ (Nat.le_of_ble_eq_true rfl) (x_colourAt hG M' _ h34.C _ (Nat.mod_lt _ (by decide)) (cl0_le hv _)) (ex_il3 dX8_row_98 (ex_icmp_ne (tgt := 109) dX8_row_99 rfl (fun c99 => ?_) (fun c99 => ?_)))))))))))
                · exact J (by rw [hrp]; simp [c99])
                · have hp : p s = true := by rw [hrp]; simp [c63, c81, c99]
                  refine (ex_inc5 dX8_row_102 (Nat.le_of_ble_eq_true rfl) rfl (inc1 _) (ex_il7 dX8_row_105 (ex_is6 dX8_row_107 (Nat.le_of_ble_eq_true rfl) rfl (ex_inc7 dX8_row_109 (Nat.le_of_ble_eq_true rfl) rfl (dec1s s) (ex_goto (tgt := 48) dX8_row_112 rfl ?_)))))
                  refine ih _ _ ⟨⟨by omega, ?_⟩, rfl⟩
                  rw [cntd_s hs, lst_sN hs, hp]; rfl
          · intro ls M' h
            obtain ⟨⟨hs, rfl⟩, rfl⟩ := h
            rw [cntd_0, lst_0]
            rcases w01 c28 with rfl | rfl
            · refine (ex_il7 dX8_row_48 (ex_if_lt (tgt := 115) dX8_row_50 rfl (fun c50 => (ex_il4 dX8_row_115 (ex_if_neN (tgt := 125) dX8_row_117 rfl (by omega) (fun c117 => (absurd rfl c117)) (fun c117 => (ex_il5 dX8_row_120 (ex_goto (tgt := 127) dX8_row_122 rfl (ex_ri dX8_row_127 rfl rfl (⟨by rw [if_pos rfl], hg1, h34.u⟩)))))))) (fun c50 => (absurd (by decide) c50))))
            · refine (ex_il7 dX8_row_48 (ex_if_lt (tgt := 115) dX8_row_50 rfl (fun c50 => (ex_il4 dX8_row_115 (ex_if_neN (tgt := 125) dX8_row_117 rfl (by omega) (fun c117 => (ex_il6 dX8_row_125 (ex_ri dX8_row_127 rfl rfl (⟨by rw [if_neg (by decide)], hg1, h34.u⟩)))) (fun c117 => (absurd c117 (by decide)))))) (fun c50 => (absurd (by decide) c50))))
        · exact J0 (by rw [c28]; simp)
theorem s_needed {sh : Sh} {Mr : MR} {L D : Nat} (hG : GX sh Mr L D) (M : MM) (g : Sg) (hg : RX M L g) (hv : sgV g) (f : Int32) : CtI mX8_needed [.ref 0, .int f] sh Mr M (PX L M (d_needed g f)) := by
  have hL := GL hG
  have h5 := hv.1.2.1.1
  have h6 := hv.1.1.1
  refine ct_of (mi := mX8_needed) (ls := [some (.ref 0), some (.int f), none, none, none, none]) rfl rfl (Nat.le_of_ble_eq_true rfl) rfl ?_
  refine (ex_il1 dX8_needed_0 (ex_SP1 dX8_needed_1 lkX8_189 ⟨(Nat.le_of_ble_eq_true rfl), (Nat.le_of_ble_eq_true rfl)⟩ ⟨Nat.le_refl _, Nat.le_refl _⟩ (Nat.le_of_ble_eq_true rfl) (x_isFog _ _ _ _) (ex_ifB_ne (tgt := 9) dX8_needed_4 rfl (fun c4 => ?_) (fun c4 => ?_))))
  · obtain ⟨f, hf, rfl⟩ := isF_nat c4
    have hd : d_needed g (nI f) = (bset (fun i => decide (nS g.1 g.2.1 (fun j => lit g.1 g.2.1 j && !decide (j = i)) (bt g.2.1.2.1) f < nS g.1 g.2.1 (lit g.1 g.2.1) (bt g.2.1.2.1) f)) g.1.1.1, g) := by simp [d_needed, c4, cN_nI (show f < 2 ^ 31 by omega)]
    rw [hd]
    generalize hP : (fun i => decide (nS g.1 g.2.1 (fun j => lit g.1 g.2.1 j && !decide (j = i)) (bt g.2.1.2.1) f < nS g.1 g.2.1 (lit g.1 g.2.1) (bt g.2.1.2.1) f)) = P
    have hle : ∀ (li sm : Nat → Bool), nS g.1 g.2.1 li sm f ≤ 5 := fun li sm => Nat.le_trans (cnt_le _ _) h5
    have hm5 := hle (lit g.1 g.2.1) (bt g.2.1.2.1)
    refine (ex_al0 dX8_needed_9 (ex_VV0 dX8_needed_10 lkX8_154 (gx0 hG) ⟨_, _, rfl⟩ ⟨(Nat.le_of_ble_eq_true rfl), (Nat.le_of_ble_eq_true rfl)⟩ ⟨Nat.le_refl _, Nat.le_refl _⟩ (Nat.le_of_ble_eq_true rfl) (x_now hG M g hg hv) (fun M10 h10 => ?_)))
    have hg1 := h10.R (by omega) hg
    refine (ex_al0 dX8_needed_13 (ex_getR dX8_needed_14 flX8_36 (gx0 hG) (gr0_4 hG) (ex_al0 dX8_needed_17 (ex_getR dX8_needed_18 flX8_26 (gx0 hG) (gr0_2 hG) (ex_VP1 dX8_needed_21 lkX8_219 (sa_sh (sa25 hG)) ⟨_, _, rfl⟩ ⟨(Nat.le_of_ble_eq_true rfl), (Nat.le_of_ble_eq_true rfl)⟩ ⟨Nat.le_refl _, Nat.le_refl _⟩ (Nat.le_of_ble_eq_true rfl) (x_paying (sa25 hG) (laL hG) M10 g.1 hg1.1 g.2.1 hg1.2.1) (ex_is2 dX8_needed_24 (Nat.le_of_ble_eq_true rfl) rfl (ex_al0 dX8_needed_25 (ex_getR dX8_needed_26 flX8_65 (gx0 hG) (gr0_9 hG) (ex_al0 dX8_needed_29 (ex_getR dX8_needed_30 flX8_26 (gx0 hG) (gr0_2 hG) (ex_il1 dX8_needed_33 (ex_VP2 dX8_needed_34 lkX8_205 (gx80 hG) ⟨_, _, rfl⟩ ⟨(Nat.le_of_ble_eq_true rfl), (Nat.le_of_ble_eq_true rfl)⟩ ⟨Nat.le_refl _, Nat.le_refl _⟩ (Nat.le_of_ble_eq_true rfl) (x_sureShips hG M10 g.1 hg1.1 _ h10.C f hf) (ex_SP1 dX8_needed_37 lkX8_222 ⟨(Nat.le_of_ble_eq_true rfl), (Nat.le_of_ble_eq_true rfl)⟩ ⟨Nat.le_refl _, Nat.le_refl _⟩ (Nat.le_of_ble_eq_true rfl) (x_bcs _ _ (by omega) _ _ _) (ex_top (y := nI ((nS g.1 g.2.1 (lit g.1 g.2.1) (bt g.2.1.2.1) f))) (rfl) (ex_is3 dX8_needed_40 (Nat.le_of_ble_eq_true rfl) rfl (ex_iconst (v := nI 0) dX8_needed_41 rfl (ex_is4 dX8_needed_42 (Nat.le_of_ble_eq_true rfl) rfl (ex_iconst (v := nI 0) dX8_needed_44 rfl (ex_is5 dX8_needed_45 (Nat.le_of_ble_eq_true rfl) rfl ?_)))))))))))))))))))
    refine ex_for (I := fun i ls M' => ls = [some (.ref 0), some (.int (nI f)), some (.int (bset (lit g.1 g.2.1) g.1.1.1)), some (.int (nI (nS g.1 g.2.1 (lit g.1 g.2.1) (bt g.2.1.2.1) f))), some (.int (bset P i)), some (.int (nI i))] ∧ LnX M M' g) g.1.1.1 ?_ ?_ 0 _ _ (Nat.zero_le _) ⟨rfl, h10.n⟩
    · intro i ls M1 hi h ih
      obtain ⟨rfl, hn⟩ := h
      have hg2 := hn.R (by omega) hg
      have hPi : P i = decide (nS g.1 g.2.1 (fun j => lit g.1 g.2.1 j && !decide (j = i)) (bt g.2.1.2.1) f < nS g.1 g.2.1 (lit g.1 g.2.1) (bt g.2.1.2.1) f) := by rw [← hP]
      have hk5 := hle (fun j => lit g.1 g.2.1 j && !decide (j = i)) (bt g.2.1.2.1)
      refine (ex_il5 dX8_needed_47 (ex_al0 dX8_needed_49 (ex_getR dX8_needed_50 flX8_26 (gx0 hG) (gr0_2 hG) (ex_getI dX8_needed_53 flX8_107 (la_sh (laL hG)) (ex_top (hg2.1.1.1) (ex_icmp_geN (tgt := 91) dX8_needed_56 rfl (by omega) (by omega) (fun c56 => (absurd c56 (by omega))) (fun c56 => (ex_al0 dX8_needed_59 (ex_il2 dX8_needed_60 (ex_iconst (v := nI 1) dX8_needed_61 rfl (ex_il5 dX8_needed_62 (ex_ishl dX8_needed_64 (ex_iconst (v := (-1)) dX8_needed_65 rfl (ex_ixor dX8_needed_66 (ex_iand dX8_needed_67 (ex_il1 dX8_needed_68 (ex_VI2 dX8_needed_69 lkX8_227 (gx0 hG) ⟨_, _, rfl⟩ ⟨(Nat.le_of_ble_eq_true rfl), (Nat.le_of_ble_eq_true rfl)⟩ ⟨Nat.le_refl _, Nat.le_refl _⟩ (Nat.le_of_ble_eq_true rfl) (x_byLight hG M M1 g hg hv hn _ (fun j => lit g.1 g.2.1 j && !decide (j = i)) (fun j hj => by rw [b_and, bt_bset _ _ (by omega) j (by omega), bt_not _ (by omega), one_shl (by omega) (by omega)]; simp [hj]) f hf) (fun v69 M69 h69 => ?_))))))))))))))))))
      obtain ⟨rfl, hn2⟩ := h69
      refine (ex_il3 dX8_needed_72 (ex_icmp_geN (tgt := 85) dX8_needed_73 rfl (by omega) (by omega) (fun c73 => ?_) (fun c73 => ?_)))
      · refine (ex_inc5 dX8_needed_85 (Nat.le_of_ble_eq_true rfl) rfl (inc1 _) (ex_goto (tgt := 47) dX8_needed_88 rfl ?_))
        refine ih _ _ ⟨?_, hn2⟩
        rw [bset_s (p := P) (n := i) (by rw [hPi]; simp; omega)]
      · refine (ex_il4 dX8_needed_76 (ex_iconst (v := nI 1) dX8_needed_78 rfl (ex_il5 dX8_needed_79 (ex_ishl dX8_needed_81 (ex_ior dX8_needed_82 (ex_top (bset_t (by rw [hPi]; simp; omega)) (ex_is4 dX8_needed_83 (Nat.le_of_ble_eq_true rfl) rfl (ex_inc5 dX8_needed_85 (Nat.le_of_ble_eq_true rfl) rfl (inc1 _) (ex_goto (tgt := 47) dX8_needed_88 rfl ?_)))))))))
        exact ih _ _ ⟨rfl, hn2⟩
    · intro ls M1 h
      obtain ⟨rfl, hn⟩ := h
      have hg2 := hn.R (by omega) hg
      refine (ex_il5 dX8_needed_47 (ex_al0 dX8_needed_49 (ex_getR dX8_needed_50 flX8_26 (gx0 hG) (gr0_2 hG) (ex_getI dX8_needed_53 flX8_107 (la_sh (laL hG)) (ex_top (hg2.1.1.1) (ex_icmp_geN (tgt := 91) dX8_needed_56 rfl (by omega) (by omega) (fun c56 => (ex_il4 dX8_needed_91 (ex_ri dX8_needed_93 rfl rfl (⟨rfl, hg2, hn.u⟩)))) (fun c56 => (absurd (Nat.le_refl _) c56))))))))
  · refine (ex_iconst (v := (-1)) dX8_needed_7 rfl (ex_ri dX8_needed_8 rfl rfl (⟨by simp [d_needed, c4], hg, fun _ _ => rfl⟩)))
theorem s_behind {sh : Sh} {Mr : MR} {L D : Nat} (hG : GX sh Mr L D) (M : MM) (g : Sg) (hg : RX M L g) (hv : sgV g) (w : Int32) : CtI mX8_behind [.ref 0, .int w] sh Mr M (PX L M (d_behind g w)) := by
  have hL := GL hG
  have h6 := hv.1.1.1
  have h64 := pow6 h6
  have hpos : 1 ≤ 2 ^ g.1.1.1 := Nat.one_le_two_pow
  refine ct_of (mi := mX8_behind) (ls := [some (.ref 0), some (.int w), none, none, none, none]) rfl rfl (Nat.le_of_ble_eq_true rfl) rfl ?_
  refine (ex_il1 dX8_behind_0 (ex_iconst (v := nI 0) dX8_behind_1 rfl (ex_iconst (v := nI 1) dX8_behind_2 rfl (ex_SP3 dX8_behind_3 lkX8_103 ⟨(Nat.le_of_ble_eq_true rfl), (Nat.le_of_ble_eq_true rfl)⟩ ⟨Nat.le_refl _, Nat.le_refl _⟩ (Nat.le_of_ble_eq_true rfl) (x_within _ _ _ _ _ _) (ex_ifB_ne (tgt := 11) dX8_behind_6 rfl (fun c6 => ?_) (fun c6 => ?_))))))
  · have hd : d_behind g w = (if w = nI 0 then nI (cnt (fit g.1 g.2.1 g.2.2.2.2.1) (2 ^ g.1.1.1)) else wN (fst (fit g.1 g.2.1 g.2.2.2.2.1) (2 ^ g.1.1.1)), g) := by simp [d_behind, c6]
    rw [hd]
    have hfit : ∀ m, fit g.1 g.2.1 g.2.2.2.2.1 m = allb (fun k => decide (cof g.1.1 (pl g.2.1) (fun i => !m.testBit i) (bt g.2.1.2.1) (g.2.2.2.2.1.2.1 k) = g.2.2.2.2.1.2.2 k)) g.2.2.2.2.1.1 := fun m => rfl
    generalize fit g.1 g.2.1 g.2.2.2.2.1 = p at hfit ⊢
    refine (ex_al0 dX8_behind_11 (ex_getR dX8_behind_12 flX8_65 (gx0 hG) (gr0_9 hG) (ex_al0 dX8_behind_15 (ex_getR dX8_behind_16 flX8_26 (gx0 hG) (gr0_2 hG) (ex_al0 dX8_behind_19 (ex_getR dX8_behind_20 flX8_36 (gx0 hG) (gr0_4 hG) (ex_VV2 dX8_behind_23 lkX8_249 (gx80 hG) ⟨_, _, rfl⟩ ⟨(Nat.le_of_ble_eq_true rfl), (Nat.le_of_ble_eq_true rfl)⟩ ⟨Nat.le_refl _, Nat.le_refl _⟩ (Nat.le_of_ble_eq_true rfl) (x_turn hG (sa25 hG) (by omega) M g.1 hg.1 g.2.1 hg.2.1 (plV_of hv.2.1)) (fun M23 h23 => ?_))))))))
    obtain ⟨f1, f2⟩ := h23
    have hn0 : LnX M M23 g := ⟨fun c hc => f1 c (by omega), f2⟩
    have hg1 := hn0.R (by omega) hg
    refine (ex_al0 dX8_behind_26 (ex_getR dX8_behind_27 flX8_26 (gx0 hG) (gr0_2 hG) (ex_VP0 dX8_behind_30 lkX8_230 (la_sh (laL hG)) ⟨_, _, rfl⟩ ⟨(Nat.le_of_ble_eq_true rfl), (Nat.le_of_ble_eq_true rfl)⟩ ⟨Nat.le_refl _, Nat.le_refl _⟩ (Nat.le_of_ble_eq_true rfl) (x_everybody (laL hG) M23 g.1 hg1.1) (ex_is2 dX8_behind_33 (Nat.le_of_ble_eq_true rfl) rfl (ex_iconst (v := nI 0) dX8_behind_34 rfl (ex_is3 dX8_behind_35 (Nat.le_of_ble_eq_true rfl) rfl (ex_bipush (v := (-4)) dX8_behind_36 rfl (ex_is4 dX8_behind_38 (Nat.le_of_ble_eq_true rfl) rfl (ex_il2 dX8_behind_40 (ex_is5 dX8_behind_41 (Nat.le_of_ble_eq_true rfl) rfl ?_))))))))))
    have hbe : ∀ j, j < g.1.1.1 → bt (nI (2 ^ g.1.1.1 - 1)) j = true := fun j hj => by rw [bt_nI _ j (by omega), Nat.testBit_two_pow_sub_one]; simp [hj]
    generalize hT : 2 ^ g.1.1.1 = T at h64 hpos hbe
    refine ex_down (I := fun m ls M' => (m ≤ T ∧ ls = [some (.ref 0), some (.int w), some (.int (nI (T - 1))), some (.int (nI (cntd p m T))), some (.int (wN (lst p m T))), some (.int (nI m - nI 1))]) ∧ LnX M M' g) ?_ ?_ T _ _ ⟨⟨Nat.le_refl _, by rw [cntd_n, lst_n, pk_sub hpos]; rfl⟩, hn0⟩
    · intro m ls M1 h ih
      obtain ⟨⟨hm, rfl⟩, hn⟩ := h
      have hm : m < T := hm
      have hg2 := hn.R (by omega) hg
      have hc64 := cntd_le p (m + 1) T
      rw [pk_sub (show 1 ≤ m + 1 by omega), Nat.add_sub_cancel]
      refine (ex_il5 dX8_behind_43 (ex_if_lt (tgt := 99) dX8_behind_45 rfl (fun c45 => (absurd c45 (nI_pos (by omega)))) (fun c45 => (ex_al0 dX8_behind_48 (ex_getR dX8_behind_49 flX8_65 (gx0 hG) (gr0_9 hG) (ex_al0 dX8_behind_52 (ex_getR dX8_behind_53 flX8_26 (gx0 hG) (gr0_2 hG) (ex_il2 dX8_behind_56 (ex_il5 dX8_behind_57 (ex_iconst (v := (-1)) dX8_behind_59 rfl (ex_ixor dX8_behind_60 (ex_iand dX8_behind_61 (ex_al0 dX8_behind_62 (ex_getR dX8_behind_63 flX8_36 (gx0 hG) (gr0_4 hG) (ex_getI dX8_behind_66 flX8_151 (sa_sh (sa25 hG)) (ex_top (hg2.2.1.2.1) (ex_VV3 dX8_behind_69 lkX8_236 (gx80 hG) ⟨_, _, rfl⟩ ⟨(Nat.le_of_ble_eq_true rfl), (Nat.le_of_ble_eq_true rfl)⟩ ⟨Nat.le_refl _, Nat.le_refl _⟩ (Nat.le_of_ble_eq_true rfl) (x_show hG M1 g.1 hg2.1 _ hn.2 (fun i => !m.testBit i) _ _ (fun j hj => by rw [b_and, hbe j hj, bt_not _ (by omega), bt_nI m j (by omega)]; simp)) (fun M69 h69 => ?_))))))))))))))))))
      obtain ⟨q1, q2⟩ := h69
      have hn2 := hn.tr q1
      have hg3 := hn2.R (by omega) hg
      have hco : CoX M69 (cof g.1.1 (pl g.2.1) (fun i => !m.testBit i) (bt g.2.1.2.1)) := q2.2.2
      have hx := x_fit hG M69 _ hg3.2.2.2.2.1 _ hco (fun s => cof_le (fun i hi => (hv.1.1.2.2 i hi).1) s)
      rw [← hfit m] at hx
      refine (ex_al0 dX8_behind_72 (ex_getR dX8_behind_73 flX8_58 (gx0 hG) (gr0_8 hG) (ex_al0 dX8_behind_76 (ex_getR dX8_behind_77 flX8_65 (gx0 hG) (gr0_9 hG) (ex_VP1 dX8_behind_80 lkX8_253 (gx77 hG) ⟨_, _, rfl⟩ ⟨(Nat.le_of_ble_eq_true rfl), (Nat.le_of_ble_eq_true rfl)⟩ ⟨Nat.le_refl _, Nat.le_refl _⟩ (Nat.le_of_ble_eq_true rfl) (hx) (ex_ifB_eq (tgt := 93) dX8_behind_83 rfl (fun c83 => ?_) (fun c83 => ?_)))))))
      · refine (ex_inc5 dX8_behind_93 (Nat.le_of_ble_eq_true rfl) rfl (dec1s m) (ex_goto (tgt := 43) dX8_behind_96 rfl ?_))
        refine ih _ _ ⟨⟨by omega, ?_⟩, hn2⟩
        rw [cntd_s hm, lst_sN hm, c83]; rfl
      · refine (ex_inc3 dX8_behind_86 (Nat.le_of_ble_eq_true rfl) rfl (inc1 _) (ex_il5 dX8_behind_89 (ex_is4 dX8_behind_91 (Nat.le_of_ble_eq_true rfl) rfl (ex_inc5 dX8_behind_93 (Nat.le_of_ble_eq_true rfl) rfl (dec1s m) (ex_goto (tgt := 43) dX8_behind_96 rfl ?_)))))
        refine ih _ _ ⟨⟨by omega, ?_⟩, hn2⟩
        rw [cntd_s hm, lst_sN hm, c83]; rfl
    · intro ls M1 h
      obtain ⟨⟨hm, rfl⟩, hn⟩ := h
      have hg2 := hn.R (by omega) hg
      rw [cntd_0, lst_0]
      rcases w01 c6 with rfl | rfl
      · refine (ex_il5 dX8_behind_43 (ex_if_lt (tgt := 99) dX8_behind_45 rfl (fun c45 => (ex_il1 dX8_behind_99 (ex_if_neN (tgt := 107) dX8_behind_100 rfl (by omega) (fun c100 => (absurd rfl c100)) (fun c100 => (ex_il3 dX8_behind_103 (ex_goto (tgt := 109) dX8_behind_104 rfl (ex_ri dX8_behind_109 rfl rfl (⟨by rw [if_pos rfl], hg2, hn.u⟩)))))))) (fun c45 => (absurd (by decide) c45))))
      · refine (ex_il5 dX8_behind_43 (ex_if_lt (tgt := 99) dX8_behind_45 rfl (fun c45 => (ex_il1 dX8_behind_99 (ex_if_neN (tgt := 107) dX8_behind_100 rfl (by omega) (fun c100 => (ex_il4 dX8_behind_107 (ex_ri dX8_behind_109 rfl rfl (⟨by rw [if_neg (by decide)], hg2, hn.u⟩)))) (fun c100 => (absurd c100 (by decide)))))) (fun c45 => (absurd (by decide) c45))))
  · refine (ex_iconst (v := (-1)) dX8_behind_9 rfl (ex_ri dX8_behind_10 rfl rfl (⟨by simp [d_behind, c6], hg, fun _ _ => rfl⟩)))
