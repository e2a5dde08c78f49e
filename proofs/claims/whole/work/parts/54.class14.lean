/-! the class: tenths, weeks, the rock, the fewest -/
theorem x_tenths {sh : Sh} {Mr : MR} {L D : Nat} (hG : GX sh Mr L D) (M : MM) (o : To) (ho : LdX M L o) (cl : Nat → Nat) (hc : CoX M cl) (t : Int32) (ss : Nat → Bool) (ht : ∀ k, k < o.2.1.1 → bt t k = ss k) : CtP mX8_sureTenths [.ref 0, .int t] sh Mr M (nI (smN (fun f => o.2.2.1 f * cnt (fun k => sur cl o.2.1 f k && ss k) o.2.1.1) 4)) := by
  have h5 := ho.2.1.2.1
  refine ct_of (mi := mX8_sureTenths) (ls := [some (.ref 0), some (.int t), none, none]) rfl rfl (Nat.le_of_ble_eq_true rfl) rfl ?_
  refine (ex_iconst (v := nI 0) dX8_sureTenths_0 rfl (ex_is2 dX8_sureTenths_1 (Nat.le_of_ble_eq_true rfl) rfl (ex_iconst (v := nI 0) dX8_sureTenths_2 rfl (ex_is3 dX8_sureTenths_3 (Nat.le_of_ble_eq_true rfl) rfl ?_))))
  refine ex_for (I := fun f ls M' => ls = [some (.ref 0), some (.int t), some (.int (nI (smN (fun f => o.2.2.1 f * cnt (fun k => sur cl o.2.1 f k && ss k) o.2.1.1) f))), some (.int (nI f))] ∧ M' = M) 4 ?_ ?_ 0 _ _ (Nat.zero_le _) ⟨rfl, rfl⟩
  · intro f ls M' hf h ih
    obtain ⟨rfl, rfl⟩ := h
    have hb : ∀ k, k < 32 → bt (bset (sur cl o.2.1 f) o.2.1.1 &&& t) k = (decide (k < o.2.1.1) && (sur cl o.2.1 f k && ss k)) := fun k hk => by
      rw [b_and, bt_bset _ _ (by omega) k hk]
      by_cases h : k < o.2.1.1
      · rw [ht k h]; simp [h]
      · simp [h]
    have he : cnt (bt (bset (sur cl o.2.1 f) o.2.1.1 &&& t)) o.2.1.1 = cnt (fun k => sur cl o.2.1 f k && ss k) o.2.1.1 := cnt_congr _ (fun k hk => by rw [hb k (by omega)]; simp [hk])
    refine (ex_il3 dX8_sureTenths_4 (ex_iconst (v := nI 4) dX8_sureTenths_5 rfl (ex_icmp_geN (tgt := 45) dX8_sureTenths_6 rfl (by omega) (by omega) (fun c6 => (absurd c6 (by omega))) (fun c6 => (ex_il2 dX8_sureTenths_9 (ex_al0 dX8_sureTenths_10 (ex_getR dX8_sureTenths_11 flX8_26 (gx0 hG) (gr0_2 hG) (ex_getR dX8_sureTenths_14 flX8_291 (la_sh (laL hG)) (la_r10 (laL hG)) (ex_il3 dX8_sureTenths_17 (ex_ildN dX8_sureTenths_18 (la_a10 (laL hG)) (by omega) (by omega) (ex_top (ho.2.2.1 f hf) (ex_al0 dX8_sureTenths_19 (ex_getR dX8_sureTenths_20 flX8_65 (gx0 hG) (gr0_9 hG) (ex_al0 dX8_sureTenths_23 (ex_getR dX8_sureTenths_24 flX8_26 (gx0 hG) (gr0_2 hG) (ex_il3 dX8_sureTenths_27 (ex_VP2 dX8_sureTenths_28 lkX8_205 (gx80 hG) ⟨_, _, rfl⟩ ⟨(Nat.le_of_ble_eq_true rfl), (Nat.le_of_ble_eq_true rfl)⟩ ⟨Nat.le_refl _, Nat.le_refl _⟩ (Nat.le_of_ble_eq_true rfl) (x_sureShips hG M' o ho cl hc f hf) (ex_il1 dX8_sureTenths_31 (ex_iand dX8_sureTenths_32 (ex_SP1 dX8_sureTenths_33 lkX8_222 ⟨(Nat.le_of_ble_eq_true rfl), (Nat.le_of_ble_eq_true rfl)⟩ ⟨Nat.le_refl _, Nat.le_refl _⟩ (Nat.le_of_ble_eq_true rfl) (x_bc _ o.2.1.1 (by omega) (fun k e1 e2 => by rw [hb k e2]; simp [show ¬ k < o.2.1.1 by omega]) _ _ _) (ex_top (y := nI ((cnt (fun k => sur cl o.2.1 f k && ss k) o.2.1.1))) (by rw [he]) (ex_imulN dX8_sureTenths_36 (ex_iaddN dX8_sureTenths_37 (ex_is2 dX8_sureTenths_38 (Nat.le_of_ble_eq_true rfl) rfl (ex_inc3 dX8_sureTenths_39 (Nat.le_of_ble_eq_true rfl) rfl (inc1 _) (ex_goto (tgt := 4) dX8_sureTenths_42 rfl ?_))))))))))))))))))))))))))
    exact ih _ _ ⟨rfl, rfl⟩
  · intro ls M' h
    obtain ⟨rfl, rfl⟩ := h
    refine (ex_il3 dX8_sureTenths_4 (ex_iconst (v := nI 4) dX8_sureTenths_5 rfl (ex_icmp_geN (tgt := 45) dX8_sureTenths_6 rfl (by omega) (by omega) (fun c6 => (ex_il2 dX8_sureTenths_45 (ex_ri dX8_sureTenths_46 rfl rfl (⟨rfl, rfl⟩)))) (fun c6 => (absurd (Nat.le_refl 4) c6)))))
theorem cnt_one (p : Nat → Bool) (k : Nat) : ∀ n, cnt (fun j => p j && decide (j = k)) n = if k < n ∧ p k = true then 1 else 0
  | 0 => by simp [cnt]
  | n + 1 => by
    simp only [cnt]
    rw [cnt_one p k n]
    by_cases e : n = k
    · subst e
      simp
    · have e2 : k < n + 1 ↔ k < n := by omega
      simp [e, e2]
theorem tth_one (o : To) (cl : Nat → Nat) (k : Nat) (hk : k < o.2.1.1) : smN (fun f => o.2.2.1 f * cnt (fun j => sur cl o.2.1 f j && decide (j = k)) o.2.1.1) 4 = tth o cl k := by
  unfold tth
  congr 1
  funext f
  rw [cnt_one]
  by_cases h : sur cl o.2.1 f k = true
  · simp [h, hk]
  · simp [h]
theorem tth_all (o : To) (cl : Nat → Nat) : ∀ n, smN (fun f => o.2.2.1 f * cnt (fun j => sur cl o.2.1 f j) n) 4 = smN (tth o cl) n
  | 0 => by simp [smN, cnt]
  | n + 1 => by
    rw [smN_s (tth o cl) n, ← tth_all o cl n]
    unfold tth
    simp only [smN, cnt, Nat.mul_add]
    have e : ∀ f, o.2.2.1 f * (if sur cl o.2.1 f n = true then 1 else 0) = if sur cl o.2.1 f n = true then o.2.2.1 f else 0 := fun f => by split <;> simp
    rw [e, e, e, e]
    omega
theorem s_odds {sh : Sh} {Mr : MR} {L D : Nat} (hG : GX sh Mr L D) (M : MM) (g : Sg) (hg : RX M L g) (hv : sgV g) (k w : Int32) : CtI mX8_odds [.ref 0, .int k, .int w] sh Mr M (PX L M (d_odds g k w)) := by
  have hL := GL hG
  have h5 := hv.1.2.1.1
  refine ct_of (mi := mX8_odds) (ls := [some (.ref 0), some (.int k), some (.int w)]) rfl rfl (Nat.le_of_ble_eq_true rfl) rfl ?_
  refine (ex_al0 dX8_odds_0 (ex_il1 dX8_odds_1 (ex_VP1 dX8_odds_2 lkX8_139 (gx0 hG) ⟨_, _, rfl⟩ ⟨(Nat.le_of_ble_eq_true rfl), (Nat.le_of_ble_eq_true rfl)⟩ ⟨Nat.le_refl _, Nat.le_refl _⟩ (Nat.le_of_ble_eq_true rfl) (x_isS hG M g hg k) (ex_ifB_eq (tgt := 17) dX8_odds_5 rfl (fun c5 => ?_) (fun c5 => ?_)))))
  · refine (ex_iconst (v := (-1)) dX8_odds_17 rfl (ex_ri dX8_odds_18 rfl rfl (⟨by simp [d_odds, c5], hg, fun _ _ => rfl⟩)))
  · refine (ex_il2 dX8_odds_8 (ex_iconst (v := nI 0) dX8_odds_9 rfl (ex_iconst (v := nI 1) dX8_odds_10 rfl (ex_SP3 dX8_odds_11 lkX8_103 ⟨(Nat.le_of_ble_eq_true rfl), (Nat.le_of_ble_eq_true rfl)⟩ ⟨Nat.le_refl _, Nat.le_refl _⟩ (Nat.le_of_ble_eq_true rfl) (x_within _ _ _ _ _ _) (ex_ifB_ne (tgt := 19) dX8_odds_14 rfl (fun c14 => ?_) (fun c14 => ?_))))))
    · obtain ⟨k, hk, rfl⟩ := isS_nat hv c5
      have htl := tth_le hv (cl0 g.1 g.2.1) k
      refine (ex_al0 dX8_odds_19 (ex_VV0 dX8_odds_20 lkX8_154 (gx0 hG) ⟨_, _, rfl⟩ ⟨(Nat.le_of_ble_eq_true rfl), (Nat.le_of_ble_eq_true rfl)⟩ ⟨Nat.le_refl _, Nat.le_refl _⟩ (Nat.le_of_ble_eq_true rfl) (x_now hG M g hg hv) (fun M20 h20 => ?_)))
      have hg1 := h20.R (by omega) hg
      refine (ex_al0 dX8_odds_23 (ex_iconst (v := nI 1) dX8_odds_24 rfl (ex_il1 dX8_odds_25 (ex_ishl dX8_odds_26 (ex_VP1 dX8_odds_27 lkX8_260 (gx0 hG) ⟨_, _, rfl⟩ ⟨(Nat.le_of_ble_eq_true rfl), (Nat.le_of_ble_eq_true rfl)⟩ ⟨Nat.le_refl _, Nat.le_refl _⟩ (Nat.le_of_ble_eq_true rfl) (x_tenths hG M20 g.1 hg1.1 _ h20.C _ (fun j => decide (j = k)) (fun j hj => one_shl (by omega) (by omega))) (ex_top (y := nI ((tth g.1 (cl0 g.1 g.2.1) k))) (by rw [tth_one _ _ _ hk]) (ex_il2 dX8_odds_30 (ex_SP2 dX8_odds_31 lkX8_263 ⟨(Nat.le_of_ble_eq_true rfl), (Nat.le_of_ble_eq_true rfl)⟩ ⟨Nat.le_refl _, Nat.le_refl _⟩ (Nat.le_of_ble_eq_true rfl) (x_partOf _ (by omega) w _ _ _) (ex_ri dX8_odds_34 rfl rfl (⟨by simp [d_odds, c5, c14, cN_nI (show k < 2 ^ 31 by omega)], hg1, h20.u⟩))))))))))
    · refine (ex_iconst (v := (-1)) dX8_odds_17 rfl (ex_ri dX8_odds_18 rfl rfl (⟨by simp [d_odds, c14], hg, fun _ _ => rfl⟩)))
theorem s_mean {sh : Sh} {Mr : MR} {L D : Nat} (hG : GX sh Mr L D) (M : MM) (g : Sg) (hg : RX M L g) (hv : sgV g) (w : Int32) : CtI mX8_mean [.ref 0, .int w] sh Mr M (PX L M (d_mean g w)) := by
  have hL := GL hG
  have h5 := hv.1.2.1.1
  refine ct_of (mi := mX8_mean) (ls := [some (.ref 0), some (.int w)]) rfl rfl (Nat.le_of_ble_eq_true rfl) rfl ?_
  refine (ex_il1 dX8_mean_0 (ex_iconst (v := nI 0) dX8_mean_1 rfl (ex_iconst (v := nI 1) dX8_mean_2 rfl (ex_SP3 dX8_mean_3 lkX8_103 ⟨(Nat.le_of_ble_eq_true rfl), (Nat.le_of_ble_eq_true rfl)⟩ ⟨Nat.le_refl _, Nat.le_refl _⟩ (Nat.le_of_ble_eq_true rfl) (x_within _ _ _ _ _ _) (ex_ifB_ne (tgt := 11) dX8_mean_6 rfl (fun c6 => ?_) (fun c6 => ?_))))))
  · have htl := smN_le (f := tth g.1 (cl0 g.1 g.2.1)) (b := 10) g.1.2.1.1 (fun i _ => tth_le hv _ i)
    refine (ex_al0 dX8_mean_11 (ex_VV0 dX8_mean_12 lkX8_154 (gx0 hG) ⟨_, _, rfl⟩ ⟨(Nat.le_of_ble_eq_true rfl), (Nat.le_of_ble_eq_true rfl)⟩ ⟨Nat.le_refl _, Nat.le_refl _⟩ (Nat.le_of_ble_eq_true rfl) (x_now hG M g hg hv) (fun M12 h12 => ?_)))
    have hg1 := h12.R (by omega) hg
    have e : smN (fun f => g.1.2.2.1 f * cnt (fun k => sur (cl0 g.1 g.2.1) g.1.2.1 f k && true) g.1.2.1.1) 4 = smN (tth g.1 (cl0 g.1 g.2.1)) g.1.2.1.1 := by
      rw [← tth_all]
      simp
    refine (ex_al0 dX8_mean_15 (ex_al0 dX8_mean_16 (ex_getR dX8_mean_17 flX8_26 (gx0 hG) (gr0_2 hG) (ex_VP0 dX8_mean_20 lkX8_266 (la_sh (laL hG)) ⟨_, _, rfl⟩ ⟨(Nat.le_of_ble_eq_true rfl), (Nat.le_of_ble_eq_true rfl)⟩ ⟨Nat.le_refl _, Nat.le_refl _⟩ (Nat.le_of_ble_eq_true rfl) (x_allShips (laL hG) M12 g.1 hg1.1) (ex_VP1 dX8_mean_23 lkX8_260 (gx0 hG) ⟨_, _, rfl⟩ ⟨(Nat.le_of_ble_eq_true rfl), (Nat.le_of_ble_eq_true rfl)⟩ ⟨Nat.le_refl _, Nat.le_refl _⟩ (Nat.le_of_ble_eq_true rfl) (x_tenths hG M12 g.1 hg1.1 _ h12.C _ (fun _ => true) (fun j hj => by rw [bt_nI _ j (by omega), Nat.testBit_two_pow_sub_one]; simp [hj])) (ex_top (y := nI ((smN (tth g.1 (cl0 g.1 g.2.1)) g.1.2.1.1))) (by rw [e]) (ex_il1 dX8_mean_26 (ex_SP2 dX8_mean_27 lkX8_263 ⟨(Nat.le_of_ble_eq_true rfl), (Nat.le_of_ble_eq_true rfl)⟩ ⟨Nat.le_refl _, Nat.le_refl _⟩ (Nat.le_of_ble_eq_true rfl) (x_partOf _ (by omega) w _ _ _) (ex_ri dX8_mean_30 rfl rfl (⟨by simp [d_mean, c6], hg1, h12.u⟩))))))))))
  · refine (ex_iconst (v := (-1)) dX8_mean_9 rfl (ex_ri dX8_mean_10 rfl rfl (⟨by simp [d_mean, c6], hg, fun _ _ => rfl⟩)))
theorem goBy_s (o : To) (x : St) (k : Nat) : goBy o (goBy o x k) 1 = goBy o x (k + 1) := by
  unfold goBy
  simp only [Nat.add_assoc]
  congr 2
  congr 1
  funext i
  rw [Int32.add_assoc, show nI 1 * o.1.2.2.1 i = o.1.2.2.1 i from Int32.one_mul _, mul_s]
theorem s_weeks {sh : Sh} {Mr : MR} {L D : Nat} (hG : GX sh Mr L D) (M : MM) (g : Sg) (hg : RX M L g) (hv : sgV g) (z n w : Int32) : CtI mX8_weeks [.ref 0, .int z, .int n, .int w] sh Mr M (PX L M (d_weeks g z n w)) := by
  have hL := GL hG
  have h5 := hv.1.2.1.1
  have h6 := hv.1.1.1
  have h999 := hv.2.1.1
  have J0 : (inB z (nI 0) (nI 9999) && (inB n (nI 1) (nI 60) && inB w (nI 0) (nI 1))) = false → EI mX8_weeks sh Mr (PX L M (d_weeks g z n w)) 30 [some (.ref 0), some (.int z), some (.int n), some (.int w), none, none, none, none] [] M := by
    intro h
    refine (ex_iconst (v := (-1)) dX8_weeks_30 rfl (ex_ri dX8_weeks_31 rfl rfl (⟨by simp [d_weeks, h], hg, fun _ _ => rfl⟩)))
  refine ct_of (mi := mX8_weeks) (ls := [some (.ref 0), some (.int z), some (.int n), some (.int w), none, none, none, none]) rfl rfl (Nat.le_of_ble_eq_true rfl) rfl ?_
  refine (ex_il1 dX8_weeks_0 (ex_iconst (v := nI 0) dX8_weeks_1 rfl (ex_sipush (v := nI 9999) dX8_weeks_2 rfl (ex_SP3 dX8_weeks_5 lkX8_103 ⟨(Nat.le_of_ble_eq_true rfl), (Nat.le_of_ble_eq_true rfl)⟩ ⟨Nat.le_refl _, Nat.le_refl _⟩ (Nat.le_of_ble_eq_true rfl) (x_within _ _ _ _ _ _) (ex_ifB_eq (tgt := 30) dX8_weeks_8 rfl (fun c8 => ?_) (fun c8 => ?_))))))
  · exact J0 (by rw [c8]; rfl)
  · refine (ex_il2 dX8_weeks_11 (ex_iconst (v := nI 1) dX8_weeks_12 rfl (ex_bipush (v := nI 60) dX8_weeks_13 rfl (ex_SP3 dX8_weeks_15 lkX8_103 ⟨(Nat.le_of_ble_eq_true rfl), (Nat.le_of_ble_eq_true rfl)⟩ ⟨Nat.le_refl _, Nat.le_refl _⟩ (Nat.le_of_ble_eq_true rfl) (x_within _ _ _ _ _ _) (ex_ifB_eq (tgt := 30) dX8_weeks_18 rfl (fun c18 => ?_) (fun c18 => ?_))))))
    · exact J0 (by rw [c18]; simp)
    · refine (ex_il3 dX8_weeks_21 (ex_iconst (v := nI 0) dX8_weeks_22 rfl (ex_iconst (v := nI 1) dX8_weeks_23 rfl (ex_SP3 dX8_weeks_24 lkX8_103 ⟨(Nat.le_of_ble_eq_true rfl), (Nat.le_of_ble_eq_true rfl)⟩ ⟨Nat.le_refl _, Nat.le_refl _⟩ (Nat.le_of_ble_eq_true rfl) (x_within _ _ _ _ _ _) (ex_ifB_ne (tgt := 32) dX8_weeks_27 rfl (fun c27 => ?_) (fun c27 => ?_))))))
      · obtain ⟨z, hz, rfl⟩ := inB_nat (by decide) c8
        obtain ⟨n, ⟨hn1, hn⟩, rfl⟩ := in1 (n := 0) (by decide) c18
        have hd : d_weeks g (nI z) (nI n) w = (if w = nI 0 then nI (cnt (fun k => decide (wkS g.1 g.2.1 z k = g.1.2.1.1)) n) else nI (smN (wkS g.1 g.2.1 z) n), g) := by
          unfold d_weeks
          rw [c8, c18, c27, cN_nI (show z < 2 ^ 31 by omega), cN_nI (show n < 2 ^ 31 by omega)]; rfl
        rw [hd]
        have hwk : ∀ k, wkS g.1 g.2.1 z k = cnt (sur (cl0 g.1 (goBy g.1 g.2.1 k)) g.1.2.1 (drw z k)) g.1.2.1.1 := fun k => rfl
        have hw5 : ∀ k, wkS g.1 g.2.1 z k ≤ 5 := fun k => Nat.le_trans (nS_le _ _ _ _ _) h5
        generalize wkS g.1 g.2.1 z = wk at hwk hw5 ⊢
        refine (ex_al0 dX8_weeks_32 (ex_getR dX8_weeks_33 flX8_40 (gx0 hG) (gr0_5 hG) (ex_al0 dX8_weeks_36 (ex_getR dX8_weeks_37 flX8_36 (gx0 hG) (gr0_4 hG) (ex_VV1 dX8_weeks_40 lkX8_269 (sa_sh (sa29 hG)) ⟨_, _, rfl⟩ ⟨(Nat.le_of_ble_eq_true rfl), (Nat.le_of_ble_eq_true rfl)⟩ ⟨Nat.le_refl _, Nat.le_refl _⟩ (Nat.le_of_ble_eq_true rfl) (x_copy (sa29 hG) (sa25 hG) (by omega) M) (fun M40 h40 => ?_))))))
        obtain ⟨f1, f2⟩ := h40
        refine (ex_iconst (v := nI 0) dX8_weeks_43 rfl (ex_is4 dX8_weeks_44 (Nat.le_of_ble_eq_true rfl) rfl (ex_iconst (v := nI 0) dX8_weeks_46 rfl (ex_is5 dX8_weeks_47 (Nat.le_of_ble_eq_true rfl) rfl (ex_iconst (v := nI 0) dX8_weeks_49 rfl (ex_is6 dX8_weeks_50 (Nat.le_of_ble_eq_true rfl) rfl ?_))))))
        have hg0 : goBy g.1 g.2.1 0 = g.2.1 := by
          unfold goBy
          simp only [Nat.add_zero, nI_0, Int32.zero_mul, Int32.add_zero]
        refine ex_for (I := fun k ls M' => (∃ o7, ls = [some (.ref 0), some (.int (nI z)), some (.int (nI n)), some (.int w), some (.int (nI (cnt (fun k => decide (wk k = g.1.2.1.1)) k))), some (.int (nI (smN wk k))), some (.int (nI k)), o7]) ∧ stX M' 29 g.1.1.1 (goBy g.1 g.2.1 k) ∧ ∀ c, (c < 29 ∨ 33 ≤ c) → (c < 80 ∨ 83 < c) → M' c = M c) n ?_ ?_ 0 _ _ (Nat.zero_le _) ⟨⟨none, rfl⟩, by rw [hg0]; exact f2 _ _ h6 hg.2.1, fun c e1 _ => f1 c (by omega)⟩
        · intro k ls M1 hk h ih
          obtain ⟨⟨o7, rfl⟩, hst, hfr⟩ := h
          have hg1 : RX M1 L g := hg.of (fun c hc => hfr c (by omega) (by omega))
          have hcn := cnt_le (fun k => decide (wk k = g.1.2.1.1)) k
          have hsm := smN_le (f := wk) (b := 5) k (fun i _ => hw5 i)
          have hpv : plV g.1.1.1 (goBy g.1 g.2.1 k) := ⟨by show g.2.1.1 + k < 2 ^ 30; omega, (plV_of hv.2.1).2⟩
          refine (ex_il6 dX8_weeks_52 (ex_il2 dX8_weeks_54 (ex_icmp_geN (tgt := 128) dX8_weeks_55 rfl (by omega) (by omega) (fun c55 => (absurd c55 (by omega))) (fun c55 => (ex_al0 dX8_weeks_58 (ex_al0 dX8_weeks_59 (ex_getR dX8_weeks_60 flX8_40 (gx0 hG) (gr0_5 hG) (ex_VV1 dX8_weeks_63 lkX8_272 (gx0 hG) ⟨_, _, rfl⟩ ⟨(Nat.le_of_ble_eq_true rfl), (Nat.le_of_ble_eq_true rfl)⟩ ⟨Nat.le_refl _, Nat.le_refl _⟩ (Nat.le_of_ble_eq_true rfl) (x_lightAs hG (sa29 hG) (by omega) M1 g.1 hg1.1 _ hst hpv) (fun M63 h63 => ?_)))))))))
          obtain ⟨q1, q2, -⟩ := h63
          have hg2 : RX M63 L g := hg1.of (fun c hc => q1 c (by omega))
          have hst2 : stX M63 29 g.1.1.1 (goBy g.1 g.2.1 k) := hst.of (fun c e1 e2 => q1 c (by omega))
          have hco : CoX M63 (cl0 g.1 (goBy g.1 g.2.1 k)) := q2.2.2
          have hwk5 := hw5 k
          have J : EI mX8_weeks sh Mr (PX L M (if w = nI 0 then nI (cnt (fun k => decide (wk k = g.1.2.1.1)) n) else nI (smN wk n), g)) 110 [some (.ref 0), some (.int (nI z)), some (.int (nI n)), some (.int w), some (.int (nI (cnt (fun k => decide (wk k = g.1.2.1.1)) (k + 1)))), some (.int (nI (smN wk k + wk k))), some (.int (nI k)), some (.int (nI (wk k)))] [] M63 := by
            refine (ex_al0 dX8_weeks_110 (ex_getR dX8_weeks_111 flX8_40 (gx0 hG) (gr0_5 hG) (ex_al0 dX8_weeks_114 (ex_getR dX8_weeks_115 flX8_26 (gx0 hG) (gr0_2 hG) (ex_iconst (v := nI 1) dX8_weeks_118 rfl (ex_VV2 dX8_weeks_119 lkX8_171 (sa_sh (sa29 hG)) ⟨_, _, rfl⟩ ⟨(Nat.le_of_ble_eq_true rfl), (Nat.le_of_ble_eq_true rfl)⟩ ⟨Nat.le_refl _, Nat.le_refl _⟩ (Nat.le_of_ble_eq_true rfl) (x_goBy (sa29 hG) (laL hG) (by omega) M63 g.1 hg2.1 _ hst2 1) (fun M119 h119 => ?_)))))))
            obtain ⟨r1, r2⟩ := h119
            rw [goBy_s] at r2
            refine (ex_inc6 dX8_weeks_122 (Nat.le_of_ble_eq_true rfl) rfl (inc1 _) (ex_goto (tgt := 52) dX8_weeks_125 rfl ?_))
            exact ih _ _ ⟨⟨_, rfl⟩, r2, fun c e1 e2 => (r1 c (by omega) (by omega)).trans ((q1 c (by omega)).trans (hfr c e1 e2))⟩
          refine (ex_al0 dX8_weeks_66 (ex_getR dX8_weeks_67 flX8_65 (gx0 hG) (gr0_9 hG) (ex_al0 dX8_weeks_70 (ex_getR dX8_weeks_71 flX8_26 (gx0 hG) (gr0_2 hG) (ex_il1 dX8_weeks_74 (ex_il6 dX8_weeks_75 (ex_SP2 dX8_weeks_77 lkX8_275 ⟨(Nat.le_of_ble_eq_true rfl), (Nat.le_of_ble_eq_true rfl)⟩ ⟨Nat.le_refl _, Nat.le_refl _⟩ (Nat.le_of_ble_eq_true rfl) (x_drawnFog z k hz (by omega) _ _ _) (ex_VP2 dX8_weeks_80 lkX8_205 (gx80 hG) ⟨_, _, rfl⟩ ⟨(Nat.le_of_ble_eq_true rfl), (Nat.le_of_ble_eq_true rfl)⟩ ⟨Nat.le_refl _, Nat.le_refl _⟩ (Nat.le_of_ble_eq_true rfl) (x_sureShips hG M63 g.1 hg2.1 _ hco _ (drw_lt z k)) (ex_SP1 dX8_weeks_83 lkX8_222 ⟨(Nat.le_of_ble_eq_true rfl), (Nat.le_of_ble_eq_true rfl)⟩ ⟨Nat.le_refl _, Nat.le_refl _⟩ (Nat.le_of_ble_eq_true rfl) (x_bcs _ _ (by omega) _ _ _) (ex_top (y := nI ((wk k))) (by rw [hwk]) (ex_is7 dX8_weeks_86 (Nat.le_of_ble_eq_true rfl) rfl (ex_il5 dX8_weeks_88 (ex_il7 dX8_weeks_90 (ex_iaddN dX8_weeks_92 (ex_is5 dX8_weeks_93 (Nat.le_of_ble_eq_true rfl) rfl (ex_il7 dX8_weeks_95 (ex_al0 dX8_weeks_97 (ex_getR dX8_weeks_98 flX8_26 (gx0 hG) (gr0_2 hG) (ex_getI dX8_weeks_101 flX8_278 (la_sh (laL hG)) (ex_top (hg2.1.2.1.1) (ex_icmp_neN (tgt := 110) dX8_weeks_104 rfl (by omega) (by omega) (fun c104 => ?_) (fun c104 => ?_))))))))))))))))))))))
          · rw [show cnt (fun k => decide (wk k = g.1.2.1.1)) (k + 1) = cnt (fun k => decide (wk k = g.1.2.1.1)) k by simp [cnt, c104]] at J
            exact J
          · refine (ex_inc4 dX8_weeks_107 (Nat.le_of_ble_eq_true rfl) rfl (inc1 _) ?_)
            rw [show cnt (fun k => decide (wk k = g.1.2.1.1)) (k + 1) = cnt (fun k => decide (wk k = g.1.2.1.1)) k + 1 by simp [cnt, c104]] at J
            exact J
        · intro ls M1 h
          obtain ⟨⟨o7, rfl⟩, hst, hfr⟩ := h
          have hg1 : RX M1 L g := hg.of (fun c hc => hfr c (by omega) (by omega))
          rcases w01 c27 with rfl | rfl
          · refine (ex_il6 dX8_weeks_52 (ex_il2 dX8_weeks_54 (ex_icmp_geN (tgt := 128) dX8_weeks_55 rfl (by omega) (by omega) (fun c55 => (ex_il3 dX8_weeks_128 (ex_if_neN (tgt := 137) dX8_weeks_129 rfl (by omega) (fun c129 => (absurd rfl c129)) (fun c129 => (ex_il4 dX8_weeks_132 (ex_goto (tgt := 139) dX8_weeks_134 rfl (ex_ri dX8_weeks_139 rfl rfl (⟨by rw [if_pos rfl], hg1, fun c hc => hfr c (by omega) (by omega)⟩)))))))) (fun c55 => (absurd (Nat.le_refl _) c55)))))
          · refine (ex_il6 dX8_weeks_52 (ex_il2 dX8_weeks_54 (ex_icmp_geN (tgt := 128) dX8_weeks_55 rfl (by omega) (by omega) (fun c55 => (ex_il3 dX8_weeks_128 (ex_if_neN (tgt := 137) dX8_weeks_129 rfl (by omega) (fun c129 => (ex_il5 dX8_weeks_137 (ex_ri dX8_weeks_139 rfl rfl (⟨by rw [if_neg (by decide)], hg1, fun c hc => hfr c (by omega) (by omega)⟩)))) (fun c129 => (absurd c129 (by decide)))))) (fun c55 => (absurd (Nat.le_refl _) c55)))))
      · exact J0 (by rw [c27]; simp)
