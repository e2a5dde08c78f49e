/-! the class: small methods -/
theorem x_within (v a b : Int32) (sh : Sh) (Mr : MR) (M : MM) : CtP mX8_within [.int v, .int a, .int b] sh Mr M (bI (inB v a b)) := by
  refine ct_of (mi := mX8_within) (ls := [some (.int v), some (.int a), some (.int b)]) rfl rfl (Nat.le_of_ble_eq_true rfl) rfl ?_
  refine (ex_il0 dX8_within_0 (ex_il1 dX8_within_1 (ex_icmp_lt (tgt := 14) dX8_within_2 rfl (fun c2 => ?_) (fun c2 => ?_))))
  · refine (ex_iconst (v := nI 0) dX8_within_14 rfl (ex_ri dX8_within_15 rfl rfl (⟨by simp [inB, i_nle c2, bI], rfl⟩)))
  · refine (ex_il0 dX8_within_5 (ex_il2 dX8_within_6 (ex_icmp_gt (tgt := 14) dX8_within_7 rfl (fun c7 => ?_) (fun c7 => ?_))))
    · refine (ex_iconst (v := nI 0) dX8_within_14 rfl (ex_ri dX8_within_15 rfl rfl (⟨by simp [inB, i_nlt c2, i_nle c7, bI], rfl⟩)))
    · refine (ex_iconst (v := nI 1) dX8_within_10 rfl (ex_goto (tgt := 15) dX8_within_11 rfl (ex_ri dX8_within_15 rfl rfl (⟨by simp [inB, i_nlt c2, i_nlt c7, bI], rfl⟩))))
theorem x_isStripe (v : Int32) (sh : Sh) (Mr : MR) (M : MM) : CtP mX8_isStripe [.int v] sh Mr M (bI (isP v)) := by
  refine ct_of (mi := mX8_isStripe) (ls := [some (.int v)]) rfl rfl (Nat.le_of_ble_eq_true rfl) rfl ?_
  refine (ex_il0 dX8_isStripe_0 (ex_iconst (v := nI 0) dX8_isStripe_1 rfl (ex_bipush (v := nI 23) dX8_isStripe_2 rfl (ex_SP3 dX8_isStripe_4 lkX8_103 ⟨(Nat.le_of_ble_eq_true rfl), (Nat.le_of_ble_eq_true rfl)⟩ ⟨Nat.le_refl _, Nat.le_refl _⟩ (Nat.le_of_ble_eq_true rfl) (x_within _ _ _ _ _ _) (ex_rb dX8_isStripe_7 rfl (⟨rfl, rfl⟩))))))
theorem x_isFog (v : Int32) (sh : Sh) (Mr : MR) (M : MM) : CtP mX8_isFog [.int v] sh Mr M (bI (isF v)) := by
  refine ct_of (mi := mX8_isFog) (ls := [some (.int v)]) rfl rfl (Nat.le_of_ble_eq_true rfl) rfl ?_
  refine (ex_il0 dX8_isFog_0 (ex_iconst (v := nI 0) dX8_isFog_1 rfl (ex_iconst (v := nI 3) dX8_isFog_2 rfl (ex_SP3 dX8_isFog_3 lkX8_103 ⟨(Nat.le_of_ble_eq_true rfl), (Nat.le_of_ble_eq_true rfl)⟩ ⟨Nat.le_refl _, Nat.le_refl _⟩ (Nat.le_of_ble_eq_true rfl) (x_within _ _ _ _ _ _) (ex_rb dX8_isFog_6 rfl (⟨rfl, rfl⟩))))))
theorem x_isCol (v : Int32) (sh : Sh) (Mr : MR) (M : MM) : CtP mX8_isColourOrDark [.int v] sh Mr M (bI (isC v)) := by
  refine ct_of (mi := mX8_isColourOrDark) (ls := [some (.int v)]) rfl rfl (Nat.le_of_ble_eq_true rfl) rfl ?_
  refine (ex_il0 dX8_isColourOrDark_0 (ex_iconst (v := nI 0) dX8_isColourOrDark_1 rfl (ex_iconst (v := nI 4) dX8_isColourOrDark_2 rfl (ex_SP3 dX8_isColourOrDark_3 lkX8_103 ⟨(Nat.le_of_ble_eq_true rfl), (Nat.le_of_ble_eq_true rfl)⟩ ⟨Nat.le_refl _, Nat.le_refl _⟩ (Nat.le_of_ble_eq_true rfl) (x_within _ _ _ _ _ _) (ex_rb dX8_isColourOrDark_6 rfl (⟨rfl, rfl⟩))))))
theorem x_colSeen (f : Nat) (hf : f < 4) (sh : Sh) (Mr : MR) (M : MM) : CtP mX8_coloursSeenIn [.int (nI f)] sh Mr M (nI (4 - f)) := by
  refine ct_of (mi := mX8_coloursSeenIn) (ls := [some (.int (nI f))]) rfl rfl (Nat.le_of_ble_eq_true rfl) rfl ?_
  refine (ex_iconst (v := nI 4) dX8_coloursSeenIn_0 rfl (ex_il0 dX8_coloursSeenIn_1 (ex_isubN dX8_coloursSeenIn_2 (by omega) (ex_ri dX8_coloursSeenIn_3 rfl rfl (⟨rfl, rfl⟩)))))
theorem x_swap {sh : Sh} {Mr : MR} (a na i j : Nat) (ha : sh[a]? = some (0, na)) (h3 : na < 1000) (hi : i < na) (hj : j < na) (M : MM) : CtV mX8_swap [.ref a, .int (nI i), .int (nI j)] sh Mr M (fun M' => M' = swR M a i j) := by
  refine ct_of (mi := mX8_swap) (ls := [some (.ref a), some (.int (nI i)), some (.int (nI j)), none]) rfl rfl (Nat.le_of_ble_eq_true rfl) rfl ?_
  refine (ex_al0 dX8_swap_0 (ex_il1 dX8_swap_1 (ex_ildN dX8_swap_2 ha (by omega) (by omega) (ex_is3 dX8_swap_3 (Nat.le_of_ble_eq_true rfl) rfl (ex_al0 dX8_swap_4 (ex_il1 dX8_swap_5 (ex_al0 dX8_swap_6 (ex_il2 dX8_swap_7 (ex_ildN dX8_swap_8 ha (by omega) (by omega) (ex_istN dX8_swap_9 ha (by omega) (by omega) (ex_al0 dX8_swap_10 (ex_il2 dX8_swap_11 (ex_il3 dX8_swap_12 (ex_istN dX8_swap_13 ha (by omega) (by omega) (ex_rv dX8_swap_14 rfl ?_)))))))))))))))
  funext c k
  unfold wr swR
  by_cases hc : c = a
  · subst hc
    by_cases h1 : k = j
    · subst h1; simp
    · by_cases h2 : k = i
      · subst h2; simp [h1]
      · simp [h1, h2]
  · simp [hc]
theorem x_drawnFog (z k : Nat) (hz : z ≤ 9999) (hk : k ≤ 60) (sh : Sh) (Mr : MR) (M : MM) : CtP mX8_drawnFog [.int (nI z), .int (nI k)] sh Mr M (nI (drw z k)) := by
  have hx : 7919 * z + 6151 * k + 1 ≤ 80000000 := by omega
  have hxx := Nat.mul_le_mul hx hx
  refine ct_of (mi := mX8_drawnFog) (ls := [some (.int (nI z)), some (.int (nI k)), none, none, none, none]) rfl rfl (Nat.le_of_ble_eq_true rfl) rfl ?_
  refine (ex_ldc2 dX8_drawnFog_0 kcX8_283 (ex_topL (y := lN (7919)) (rfl) (ex_il0 dX8_drawnFog_3 (ex_i2l dX8_drawnFog_4 (ex_topL (y := lN (z)) (nI_l (by omega)) (ex_lmul dX8_drawnFog_5 (ex_topL (y := lN ((7919 * z))) (lN_mul _ _) (ex_ldc2 dX8_drawnFog_6 kcX8_285 (ex_topL (y := lN (6151)) (rfl) (ex_il1 dX8_drawnFog_9 (ex_i2l dX8_drawnFog_10 (ex_topL (y := lN (k)) (nI_l (by omega)) (ex_lmul dX8_drawnFog_11 (ex_topL (y := lN ((6151 * k))) (lN_mul _ _) (ex_ladd dX8_drawnFog_12 (ex_topL (y := lN ((7919 * z + 6151 * k))) (lN_add _ _) (ex_lconst (v := lN 1) dX8_drawnFog_13 rfl (ex_ladd dX8_drawnFog_14 (ex_topL (y := lN ((7919 * z + 6151 * k + 1))) (lN_add _ _) (ex_ls2 dX8_drawnFog_15 (Nat.le_of_ble_eq_true rfl) rfl (ex_ll2 dX8_drawnFog_16 (ex_ll2 dX8_drawnFog_17 (ex_lmul dX8_drawnFog_18 (ex_topL (y := lN (((7919 * z + 6151 * k + 1) * (7919 * z + 6151 * k + 1)))) (lN_mul _ _) (ex_ldc2 dX8_drawnFog_19 kcX8_287 (ex_topL (y := lN (65521)) (rfl) (ex_lrem dX8_drawnFog_22 (by decide) (ex_topL (y := lN (((7919 * z + 6151 * k + 1) * (7919 * z + 6151 * k + 1) % 65521))) (pk_lRem (by omega) (by omega) (by omega)) (ex_ldc2 dX8_drawnFog_23 kcX8_289 (ex_topL (y := lN (4)) (rfl) (ex_ldiv dX8_drawnFog_26 (by decide) (ex_topL (y := lN (((7919 * z + 6151 * k + 1) * (7919 * z + 6151 * k + 1) % 65521 / 4))) (pk_lDiv (by omega) (by omega) (by omega)) (ex_ls4 dX8_drawnFog_27 (Nat.le_of_ble_eq_true rfl) rfl (ex_ll4 dX8_drawnFog_29 (ex_ldc2 dX8_drawnFog_31 kcX8_289 (ex_topL (y := lN (4)) (rfl) (ex_lrem dX8_drawnFog_34 (by decide) (ex_topL (y := lN ((drw z k))) (pk_lRem (by omega) (by omega) (by omega)) (ex_l2i dX8_drawnFog_35 (ex_top (y := nI ((drw z k))) (lN_i _) (ex_ri dX8_drawnFog_36 rfl rfl (⟨rfl, rfl⟩))))))))))))))))))))))))))))))))))))))))))
