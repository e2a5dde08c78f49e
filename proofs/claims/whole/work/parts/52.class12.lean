/-! the class: more calls -/
theorem less_eq {a r : Int32} (h1 : 0 ≤ a.toInt) (h2 : a.toInt ≤ 20000) (h3 : 0 ≤ r.toInt) (h4 : r.toInt ≤ 99) : (if nI 0 < a - r then a - r else nI 0) = less a r := by
  unfold less
  have hs : (a - r).toInt = a.toInt - r.toInt := by
    rw [Int32.toInt_sub]
    simp only [Int.bmod]
    split <;> omega
  have e : nI 0 < a - r ↔ r < a := by
    rw [i_lt_iff, i_lt_iff, hs, show (nI 0).toInt = 0 by decide]
    omega
  by_cases h : r < a
  · rw [if_pos h, if_pos (e.mpr h)]
  · rw [if_neg h, if_neg (fun x => h (e.mp x))]
theorem s_pay {sh : Sh} {Mr : MR} {L D : Nat} (hG : GX sh Mr L D) (M : MM) (g : Sg) (hg : RX M L g) (hv : sgV g) (i r : Int32) : CtI mX8_pay [.ref 0, .int i, .int r] sh Mr M (PX L M (d_pay g i r)) := by
  have hL := GL hG
  have h6 := hv.1.1.1
  have h999 := hv.2.1.1
  refine ct_of (mi := mX8_pay) (ls := [some (.ref 0), some (.int i), some (.int r)]) rfl rfl (Nat.le_of_ble_eq_true rfl) rfl ?_
  refine (ex_al0 dX8_pay_0 (ex_il1 dX8_pay_1 (ex_VP1 dX8_pay_2 lkX8_114 (gx0 hG) ⟨_, _, rfl⟩ ⟨(Nat.le_of_ble_eq_true rfl), (Nat.le_of_ble_eq_true rfl)⟩ ⟨Nat.le_refl _, Nat.le_refl _⟩ (Nat.le_of_ble_eq_true rfl) (x_isT hG M g hg i) (ex_ifB_eq (tgt := 18) dX8_pay_5 rfl (fun c5 => ?_) (fun c5 => ?_)))))
  · refine (ex_iconst (v := (-1)) dX8_pay_18 rfl (ex_ri dX8_pay_19 rfl rfl (⟨by simp [d_pay, c5], by simp only [d_pay, c5]; exact hg, fun _ _ => rfl⟩)))
  · refine (ex_il2 dX8_pay_8 (ex_iconst (v := nI 1) dX8_pay_9 rfl (ex_bipush (v := nI 99) dX8_pay_10 rfl (ex_SP3 dX8_pay_12 lkX8_103 ⟨(Nat.le_of_ble_eq_true rfl), (Nat.le_of_ble_eq_true rfl)⟩ ⟨Nat.le_refl _, Nat.le_refl _⟩ (Nat.le_of_ble_eq_true rfl) (x_within _ _ _ _ _ _) (ex_ifB_ne (tgt := 20) dX8_pay_15 rfl (fun c15 => ?_) (fun c15 => ?_))))))
    · obtain ⟨i, hi, rfl⟩ := isT_nat hv c5
      have hci : cN (nI i) = i := cN_nI (by omega)
      have hd : d_pay g (nI i) r = (less (g.2.1.2.2.1 i) r, act g (g.2.1.1, g.2.1.2.1, (fun k => if k = i then less (g.2.1.2.2.1 i) r else g.2.1.2.2.1 k), g.2.1.2.2.2)) := by simp [d_pay, c5, c15, hci]
      rw [hd]
      have hb := (hv.2.1.2.2 i hi).1
      have hr := c15
      simp only [inB, Bool.and_eq_true, decide_eq_true_eq, i_le_iff] at hr
      rw [show (nI 1).toInt = 1 by decide, show (nI 99).toInt = 99 by decide] at hr
      have hl := less_eq (a := g.2.1.2.2.1 i) (r := r) hb.1 (by omega) (by omega) hr.2
      refine (ex_al0 dX8_pay_20 (ex_getR dX8_pay_21 flX8_48 (gx0 hG) (gr0_6 hG) (ex_al0 dX8_pay_24 (ex_getR dX8_pay_25 flX8_36 (gx0 hG) (gr0_4 hG) (ex_VV1 dX8_pay_28 lkX8_167 (pi_sh (pi33 hG)) ⟨_, _, rfl⟩ ⟨(Nat.le_of_ble_eq_true rfl), (Nat.le_of_ble_eq_true rfl)⟩ ⟨Nat.le_refl _, Nat.le_refl _⟩ (Nat.le_of_ble_eq_true rfl) (x_put33 hG M g hg) (fun M28 h28 => ?_))))))
      obtain ⟨f1, f2⟩ := h28
      have hx1 : stX M28 25 g.1.1.1 g.2.1 := hg.2.1.of (fun c e1 e2 => f1 c (by omega))
      refine (ex_al0 dX8_pay_31 (ex_getR dX8_pay_32 flX8_36 (gx0 hG) (gr0_4 hG) (ex_getR dX8_pay_35 flX8_133 (sa_sh (sa25 hG)) (sa_r1 (sa25 hG)) (ex_il1 dX8_pay_38 (ex_iconst (v := nI 0) dX8_pay_39 rfl (ex_al0 dX8_pay_40 (ex_getR dX8_pay_41 flX8_36 (gx0 hG) (gr0_4 hG) (ex_getR dX8_pay_44 flX8_133 (sa_sh (sa25 hG)) (sa_r1 (sa25 hG)) (ex_il1 dX8_pay_47 (ex_ildN dX8_pay_48 (sa_a1 (sa25 hG)) (by omega) (by omega) (ex_top ((hx1.2.2 i hi).1) (ex_il2 dX8_pay_49 (ex_isub dX8_pay_50 (ex_max dX8_pay_51 mxX8_175 mx_sta mx_ini mx_code ⟨(Nat.le_of_ble_eq_true rfl), (Nat.le_of_ble_eq_true rfl)⟩ ⟨Nat.le_refl _, Nat.le_refl _⟩ (Nat.le_of_ble_eq_true rfl) (ex_top (hl) (ex_istN dX8_pay_54 (sa_a1 (sa25 hG)) (by omega) (by omega) (ex_al0 dX8_pay_55 (ex_getR dX8_pay_56 flX8_36 (gx0 hG) (gr0_4 hG) (ex_getR dX8_pay_59 flX8_133 (sa_sh (sa25 hG)) (sa_r1 (sa25 hG)) (ex_il1 dX8_pay_62 (ex_ildN dX8_pay_63 (sa_a1 (sa25 hG)) (by omega) (by omega) (ex_top (wr_s) (ex_ri dX8_pay_64 rfl rfl ?_)))))))))))))))))))))))
      refine ⟨rfl, hg.act (by omega) ⟨by rw [wr_oc (by omega)]; exact hx1.1, by rw [wr_oc (by omega)]; exact hx1.2.1, fun k hk => ⟨?_, by rw [wr_oc (by omega)]; exact (hx1.2.2 k hk).2.1, by rw [wr_oc (by omega)]; exact (hx1.2.2 k hk).2.2⟩⟩ (f2.of (fun c e1 e2 => wr_oc (by omega))) (fun c hc => by rw [wr_oc (by omega)]; exact f1 c (by omega)), fun c hc => by rw [wr_oc (by omega)]; exact f1 c (by omega)⟩
      show wr M28 26 i _ 26 k = if k = i then _ else _
      by_cases e : k = i
      · subst e; rw [wr_s, if_pos rfl]
      · rw [wr_oi e, if_neg e]; exact (hx1.2.2 k hk).1
    · refine (ex_iconst (v := (-1)) dX8_pay_18 rfl (ex_ri dX8_pay_19 rfl rfl (⟨by simp [d_pay, c15], by simp only [d_pay, c15, Bool.and_false]; exact hg, fun _ _ => rfl⟩)))
theorem s_look {sh : Sh} {Mr : MR} {L D : Nat} (hG : GX sh Mr L D) (M : MM) (g : Sg) (hg : RX M L g) (s c : Int32) : CtI mX8_look [.ref 0, .int s, .int c] sh Mr M (PX L M (d_look g s c)) := by
  have hL := GL hG
  refine ct_of (mi := mX8_look) (ls := [some (.ref 0), some (.int s), some (.int c)]) rfl rfl (Nat.le_of_ble_eq_true rfl) rfl ?_
  refine (ex_il1 dX8_look_0 (ex_SP1 dX8_look_1 lkX8_148 ⟨(Nat.le_of_ble_eq_true rfl), (Nat.le_of_ble_eq_true rfl)⟩ ⟨Nat.le_refl _, Nat.le_refl _⟩ (Nat.le_of_ble_eq_true rfl) (x_isStripe _ _ _ _) (ex_ifB_eq (tgt := 14) dX8_look_4 rfl (fun c4 => ?_) (fun c4 => ?_))))
  · refine (ex_iconst (v := (-1)) dX8_look_14 rfl (ex_ri dX8_look_15 rfl rfl (⟨by simp [d_look, c4], by simp only [d_look, c4]; exact hg, fun _ _ => rfl⟩)))
  · refine (ex_il2 dX8_look_7 (ex_SP1 dX8_look_8 lkX8_243 ⟨(Nat.le_of_ble_eq_true rfl), (Nat.le_of_ble_eq_true rfl)⟩ ⟨Nat.le_refl _, Nat.le_refl _⟩ (Nat.le_of_ble_eq_true rfl) (x_isCol _ _ _ _) (ex_ifB_ne (tgt := 16) dX8_look_11 rfl (fun c11 => ?_) (fun c11 => ?_))))
    · obtain ⟨a, ha, rfl⟩ := isP_nat c4
      obtain ⟨b, hb, rfl⟩ := isC_nat c11
      refine (ex_al0 dX8_look_16 (ex_getR dX8_look_17 flX8_58 (gx0 hG) (gr0_8 hG) (ex_il1 dX8_look_20 (ex_il2 dX8_look_21 (ex_VI2 dX8_look_22 lkX8_246 (gx77 hG) ⟨_, _, rfl⟩ ⟨(Nat.le_of_ble_eq_true rfl), (Nat.le_of_ble_eq_true rfl)⟩ ⟨Nat.le_refl _, Nat.le_refl _⟩ (Nat.le_of_ble_eq_true rfl) (x_looked hG M _ hg.2.2.2.2.1 a b ha hb) (fun v22 M22 h22 => ?_))))))
      obtain ⟨rfl, f1, f2⟩ := h22
      have hR : ∀ lk, LkX M22 lk → RX M22 L (g.1, g.2.1, g.2.2.1, g.2.2.2.1, lk, g.2.2.2.2.2) := fun lk h => by
        obtain ⟨h1, h2, h3, h4, h5, h6⟩ := hg
        exact ⟨h1.of (fun c e1 e2 => f1 c (by omega)), h2.of (fun c e1 e2 => f1 c (by omega)), h3.of (fun c e1 e2 => f1 c (by omega)), h4.of (fun c e1 e2 => f1 c (by omega)), h, h6.of (f1 1 (by omega)) (f1 2 (by omega))⟩
      have hca : cN (nI a) = a := cN_nI (by omega)
      have hcb : cN (nI b) = b := cN_nI (by omega)
      refine (ex_ifB_eq (tgt := 38) dX8_look_25 rfl (fun c25 => ?_) (fun c25 => ?_))
      · have e : g.2.2.2.2.1.1 = 8 := by simpa using c25
        rw [if_pos e] at f2
        refine (ex_bipush (v := (-3)) dX8_look_38 rfl (ex_ri dX8_look_40 rfl rfl (⟨by simp [d_look, c4, c11, e], by simp only [d_look, c4, c11, e, Bool.and_self, if_true]; exact hR _ f2, fun c hc => f1 c (by omega)⟩)))
      · have e : ¬ g.2.2.2.2.1.1 = 8 := by simpa using c25
        rw [if_neg e] at f2
        refine (ex_al0 dX8_look_28 (ex_getR dX8_look_29 flX8_58 (gx0 hG) (gr0_8 hG) (ex_getI dX8_look_32 flX8_110 (gx77 hG) (ex_top (f2.1) (ex_goto (tgt := 40) dX8_look_35 rfl (ex_ri dX8_look_40 rfl rfl (⟨by simp [d_look, c4, c11, e], by simp only [d_look, c4, c11, e, Bool.and_self, if_true, if_false, hca, hcb]; exact hR _ f2, fun c hc => f1 c (by omega)⟩)))))))
    · refine (ex_iconst (v := (-1)) dX8_look_14 rfl (ex_ri dX8_look_15 rfl rfl (⟨by simp [d_look, c11], by simp only [d_look, c11, Bool.and_false]; exact hg, fun _ _ => rfl⟩)))
theorem s_forget {sh : Sh} {Mr : MR} {L D : Nat} (hG : GX sh Mr L D) (M : MM) (g : Sg) (hg : RX M L g) : CtI mX8_forget [.ref 0] sh Mr M (PX L M (d_forget g)) := by
  have hL := GL hG
  refine ct_of (mi := mX8_forget) (ls := [some (.ref 0), none]) rfl rfl (Nat.le_of_ble_eq_true rfl) rfl ?_
  refine (ex_al0 dX8_forget_0 (ex_getR dX8_forget_1 flX8_58 (gx0 hG) (gr0_8 hG) (ex_getI dX8_forget_4 flX8_110 (gx77 hG) (ex_top (hg.2.2.2.2.1.1) (ex_is1 dX8_forget_7 (Nat.le_of_ble_eq_true rfl) rfl (ex_al0 dX8_forget_8 (ex_getR dX8_forget_9 flX8_58 (gx0 hG) (gr0_8 hG) (ex_iconst (v := nI 0) dX8_forget_12 rfl (ex_putI dX8_forget_13 (fpX8_110 _) (gx77 hG) (ex_il1 dX8_forget_16 (ex_ri dX8_forget_17 rfl rfl ?_)))))))))))
  obtain ⟨h1, h2, h3, h4, h5, h6⟩ := hg
  exact ⟨rfl, ⟨h1.of (fun c e1 e2 => wr_oc (by omega)), h2.of (fun c e1 e2 => wr_oc (by omega)), h3.of (fun c e1 e2 => wr_oc (by omega)), h4.of (fun c e1 e2 => wr_oc (by omega)), ⟨wr_s, Nat.zero_le _, fun k hk => absurd hk (Nat.not_lt_zero k)⟩, h6.of (wr_oc (by omega)) (wr_oc (by omega))⟩, fun c hc => wr_oc (by omega)⟩
theorem s_keep {sh : Sh} {Mr : MR} {L D : Nat} (hG : GX sh Mr L D) (M : MM) (g : Sg) (hg : RX M L g) : CtI mX8_keep [.ref 0] sh Mr M (PX L M (d_keep g)) := by
  have hL := GL hG
  obtain ⟨b0, -, -, hsz, hsl, -⟩ := hg.2.2.2.1
  refine ct_of (mi := mX8_keep) (ls := [some (.ref 0)]) rfl rfl (Nat.le_of_ble_eq_true rfl) rfl ?_
  refine (ex_al0 dX8_keep_0 (ex_getR dX8_keep_1 flX8_52 (gx0 hG) (gr0_7 hG) (ex_getI dX8_keep_4 flX8_113 (pi_sh (pi67 hG)) (ex_top (hsz) (ex_iconst (v := nI 2) dX8_keep_7 rfl (ex_icmp_neN (tgt := 14) dX8_keep_8 rfl (by omega) (by omega) (fun c8 => ?_) (fun c8 => ?_)))))))
  · refine (ex_al0 dX8_keep_14 (ex_getR dX8_keep_15 flX8_52 (gx0 hG) (gr0_7 hG) (ex_al0 dX8_keep_18 (ex_getR dX8_keep_19 flX8_36 (gx0 hG) (gr0_4 hG) (ex_VV1 dX8_keep_22 lkX8_167 (pi_sh (pi67 hG)) ⟨_, _, rfl⟩ ⟨(Nat.le_of_ble_eq_true rfl), (Nat.le_of_ble_eq_true rfl)⟩ ⟨Nat.le_refl _, Nat.le_refl _⟩ (Nat.le_of_ble_eq_true rfl) (x_put (pi67 hG) (sa25 hG) (by omega) (by omega) (by omega) M g.1.1.1 hg.1.1.2.1 _ hg.2.2.2.1 _ hg.2.1) (fun M22 h22 => ?_))))))
    obtain ⟨f1, f2⟩ := h22
    unfold remr at f2
    rw [if_neg c8] at f2
    obtain ⟨b, q1, q2, q3, q4⟩ := f2
    obtain ⟨h1, h2, h3, h4, h5, h6⟩ := hg
    have hd : d_keep g = (nI (g.2.2.2.1.1 + 1), (g.1, g.2.1, g.2.2.1, (g.2.2.2.1.1 + 1, fun k => if k = g.2.2.2.1.1 then g.2.1 else g.2.2.2.1.2 k), g.2.2.2.2)) := by unfold d_keep; rw [if_neg c8]
    rw [hd]
    refine (ex_al0 dX8_keep_25 (ex_getR dX8_keep_26 flX8_52 (gx0 hG) (gr0_7 hG) (ex_getI dX8_keep_29 flX8_113 (pi_sh (pi67 hG)) (ex_top (q3) (ex_ri dX8_keep_32 rfl rfl (⟨rfl, ⟨h1.of (fun c e1 e2 => f1 c (by omega)), h2.of (fun c e1 e2 => f1 c (by omega)), h3.of (fun c e1 e2 => f1 c (by omega)), ⟨b, q1, q2, q3, q4⟩, h5.of (fun c e1 e2 => f1 c (by omega)), h6.of (f1 1 (by omega)) (f1 2 (by omega))⟩, fun c hc => f1 c (by omega)⟩))))))
  · refine (ex_bipush (v := (-3)) dX8_keep_11 rfl (ex_ri dX8_keep_13 rfl rfl (⟨by simp [d_keep, c8], by simp only [d_keep, c8, if_true]; exact hg, fun _ _ => rfl⟩)))
theorem s_back {sh : Sh} {Mr : MR} {L D : Nat} (hG : GX sh Mr L D) (M : MM) (g : Sg) (hg : RX M L g) : CtI mX8_back [.ref 0] sh Mr M (PX L M (d_back g)) := by
  have hL := GL hG
  refine ct_of (mi := mX8_back) (ls := [some (.ref 0)]) rfl rfl (Nat.le_of_ble_eq_true rfl) rfl ?_
  refine (ex_al0 dX8_back_0 (ex_getR dX8_back_1 flX8_52 (gx0 hG) (gr0_7 hG) (ex_al0 dX8_back_4 (ex_getR dX8_back_5 flX8_36 (gx0 hG) (gr0_4 hG) (ex_VI1 dX8_back_8 lkX8_185 (pi_sh (pi67 hG)) ⟨_, _, rfl⟩ ⟨(Nat.le_of_ble_eq_true rfl), (Nat.le_of_ble_eq_true rfl)⟩ ⟨Nat.le_refl _, Nat.le_refl _⟩ (Nat.le_of_ble_eq_true rfl) (x_takeInto (pi67 hG) (sa25 hG) (by omega) (by omega) M g.1.1.1 hg.1.1.2.1 _ hg.2.2.2.1) (fun v8 M8 h8 => ?_))))))
  obtain ⟨rfl, f1, f2, f3⟩ := h8
  refine (ex_ifB_ne (tgt := 17) dX8_back_11 rfl (fun c11 => ?_) (fun c11 => ?_))
  · have e : ¬ g.2.2.2.1.1 = 0 := by simpa using c11
    obtain ⟨hk, q5⟩ := f3 e
    have hk2 := hk.of (M' := wr M8 33 2 (nI 0)) (fun c e1 e2 => wr_oc (by omega))
    obtain ⟨b, q1, q2, q3, q4⟩ := hk2
    obtain ⟨h1, h2, ⟨b3, k1, k2, k3, k4, k5⟩, h4, h5, h6⟩ := hg
    have hc : ∀ c, c ≠ 67 → (c < 25 ∨ 29 ≤ c) → c ≠ 33 → wr M8 33 2 (nI 0) c = M c := fun c e1 e2 e3 => by rw [wr_oc e3]; exact f1 c e1 (by omega)
    have hd : d_back g = (nI (g.2.2.2.1.1 - 1), (g.1, g.2.2.2.1.2 (g.2.2.2.1.1 - 1), (0, g.2.2.1.2), (g.2.2.2.1.1 - 1, g.2.2.2.1.2), g.2.2.2.2)) := by unfold d_back; rw [if_neg e]
    rw [hd]
    refine (ex_al0 dX8_back_17 (ex_getR dX8_back_18 flX8_48 (gx0 hG) (gr0_6 hG) (ex_iconst (v := nI 0) dX8_back_21 rfl (ex_putI dX8_back_22 (fpX8_113 _) (pi_sh (pi33 hG)) (ex_al0 dX8_back_25 (ex_getR dX8_back_26 flX8_52 (gx0 hG) (gr0_7 hG) (ex_getI dX8_back_29 flX8_113 (pi_sh (pi67 hG)) (ex_top (q3) (ex_ri dX8_back_32 rfl rfl ?_)))))))))
    refine ⟨rfl, ⟨h1.of (fun c e1 e2 => hc c (by omega) (by omega) (by omega)), q5.of (fun c e1 e2 => wr_oc (by omega)), ⟨b3, ?_, k2, wr_s, Nat.zero_le _, fun k hk => absurd hk (Nat.not_lt_zero k)⟩, ⟨b, q1, q2, q3, q4⟩, h5.of (fun c e1 e2 => hc c (by omega) (by omega) (by omega)), h6.of (hc 1 (by omega) (by omega) (by omega)) (hc 2 (by omega) (by omega) (by omega))⟩, fun c h => hc c (by omega) (by omega) (by omega)⟩
    rw [wr_oi (by omega), f1 33 (by omega) (by omega)]
    exact k1
  · have e : g.2.2.2.1.1 = 0 := by simpa using c11
    have := f2 e
    subst this
    refine (ex_bipush (v := (-2)) dX8_back_14 rfl (ex_ri dX8_back_16 rfl rfl (⟨by simp [d_back, e], by simp only [d_back, e, if_true]; exact hg, fun _ _ => rfl⟩)))
theorem cnt_not (p : Nat → Bool) : ∀ n, cnt (fun i => !p i) n = n - cnt p n
  | 0 => rfl
  | n + 1 => by
    have := cnt_le p n
    simp only [cnt]
    rw [cnt_not p n]
    by_cases h : p n = true
    · simp [h]
    · simp [h]
      omega
theorem s_count {sh : Sh} {Mr : MR} {L D : Nat} (hG : GX sh Mr L D) (M : MM) (g : Sg) (hg : RX M L g) (hv : sgV g) (w : Int32) : CtI mX8_count [.ref 0, .int w] sh Mr M (PX L M (d_count g w)) := by
  have h6 := hv.1.1.1
  obtain ⟨b0, -, -, hsz, hsl, -⟩ := hg.2.2.2.1
  obtain ⟨b1, -, -, hsz1, hsl1, -⟩ := hg.2.2.1
  refine ct_of (mi := mX8_count) (ls := [some (.ref 0), some (.int w)]) rfl rfl (Nat.le_of_ble_eq_true rfl) rfl ?_
  by_cases hw : inB w (nI 0) (nI 8) = true
  · have hd : ∀ k, k ≤ 8 → w = nI k → d_count g w = (ctV g k, g) := fun k hk e => by
      unfold d_count
      rw [hw, e, cN_nI (by omega)]
      rfl
    obtain ⟨k, hk, rfl⟩ := inB_nat (by decide) hw
    rw [hd k hk rfl]
    refine (ex_il1 dX8_count_0 ?_)
    rcases (show k = 0 ∨ k = 1 ∨ k = 2 ∨ k = 3 ∨ k = 4 ∨ k = 5 ∨ k = 6 ∨ k = 7 ∨ k = 8 by omega) with rfl | rfl | rfl | rfl | rfl | rfl | rfl | rfl | rfl
    · refine ex_tableIn (tgt := 52) (off := 51) dX8_count_1 (by decide) (by decide) (by decide) rfl ?_
      refine (ex_al0 dX8_count_52 (ex_getR dX8_count_53 flX8_26 (gx0 hG) (gr0_2 hG) (ex_getI dX8_count_56 flX8_107 (la_sh (laL hG)) (ex_top (hg.1.1.1) (ex_ri dX8_count_59 rfl rfl (⟨rfl, hg, fun _ _ => rfl⟩))))))
    · refine ex_tableIn (tgt := 60) (off := 59) dX8_count_1 (by decide) (by decide) (by decide) rfl ?_
      refine (ex_al0 dX8_count_60 (ex_getR dX8_count_61 flX8_26 (gx0 hG) (gr0_2 hG) (ex_getI dX8_count_64 flX8_278 (la_sh (laL hG)) (ex_top (hg.1.2.1.1) (ex_ri dX8_count_67 rfl rfl (⟨rfl, hg, fun _ _ => rfl⟩))))))
    · refine ex_tableIn (tgt := 68) (off := 67) dX8_count_1 (by decide) (by decide) (by decide) rfl ?_
      refine (ex_al0 dX8_count_68 (ex_getR dX8_count_69 flX8_36 (gx0 hG) (gr0_4 hG) (ex_getI dX8_count_72 flX8_164 (sa_sh (sa25 hG)) (ex_top (hg.2.1.1) (ex_ri dX8_count_75 rfl rfl (⟨rfl, hg, fun _ _ => rfl⟩))))))
    · refine ex_tableIn (tgt := 76) (off := 75) dX8_count_1 (by decide) (by decide) (by decide) rfl ?_
      refine (ex_al0 dX8_count_76 (ex_getR dX8_count_77 flX8_36 (gx0 hG) (gr0_4 hG) (ex_getI dX8_count_80 flX8_151 (sa_sh (sa25 hG)) (ex_top (hg.2.1.2.1) (ex_SP1 dX8_count_83 lkX8_222 ⟨(Nat.le_of_ble_eq_true rfl), (Nat.le_of_ble_eq_true rfl)⟩ ⟨Nat.le_refl _, Nat.le_refl _⟩ (Nat.le_of_ble_eq_true rfl) (x_bc _ 24 (by omega) (fun i h1 _ => hv.2.1.2.1 i h1) _ _ _) (ex_ri dX8_count_86 rfl rfl (⟨rfl, hg, fun _ _ => rfl⟩)))))))
    · refine ex_tableIn (tgt := 87) (off := 86) dX8_count_1 (by decide) (by decide) (by decide) rfl ?_
      refine (ex_al0 dX8_count_87 (ex_getR dX8_count_88 flX8_26 (gx0 hG) (gr0_2 hG) (ex_getI dX8_count_91 flX8_107 (la_sh (laL hG)) (ex_top (hg.1.1.1) (ex_al0 dX8_count_94 (ex_getR dX8_count_95 flX8_36 (gx0 hG) (gr0_4 hG) (ex_al0 dX8_count_98 (ex_getR dX8_count_99 flX8_26 (gx0 hG) (gr0_2 hG) (ex_VP1 dX8_count_102 lkX8_219 (sa_sh (sa25 hG)) ⟨_, _, rfl⟩ ⟨(Nat.le_of_ble_eq_true rfl), (Nat.le_of_ble_eq_true rfl)⟩ ⟨Nat.le_refl _, Nat.le_refl _⟩ (Nat.le_of_ble_eq_true rfl) (x_paying (sa25 hG) (laL hG) M g.1 hg.1 g.2.1 hg.2.1) (ex_SP1 dX8_count_105 lkX8_222 ⟨(Nat.le_of_ble_eq_true rfl), (Nat.le_of_ble_eq_true rfl)⟩ ⟨Nat.le_refl _, Nat.le_refl _⟩ (Nat.le_of_ble_eq_true rfl) (x_bcs _ _ (by omega) _ _ _) (ex_isubN dX8_count_108 (cnt_le _ _) (ex_ri dX8_count_109 rfl rfl (⟨by show _ = nI (cnt (fun i => !lit g.1 g.2.1 i) g.1.1.1); rw [cnt_not], hg, fun _ _ => rfl⟩)))))))))))))
    · refine ex_tableIn (tgt := 110) (off := 109) dX8_count_1 (by decide) (by decide) (by decide) rfl ?_
      refine (ex_al0 dX8_count_110 (ex_getR dX8_count_111 flX8_58 (gx0 hG) (gr0_8 hG) (ex_getI dX8_count_114 flX8_110 (gx77 hG) (ex_top (hg.2.2.2.2.1.1) (ex_ri dX8_count_117 rfl rfl (⟨rfl, hg, fun _ _ => rfl⟩))))))
    · refine ex_tableIn (tgt := 118) (off := 117) dX8_count_1 (by decide) (by decide) (by decide) rfl ?_
      refine (ex_al0 dX8_count_118 (ex_getR dX8_count_119 flX8_48 (gx0 hG) (gr0_6 hG) (ex_getI dX8_count_122 flX8_113 (pi_sh (pi33 hG)) (ex_top (hsz1) (ex_ri dX8_count_125 rfl rfl (⟨rfl, hg, fun _ _ => rfl⟩))))))
    · refine ex_tableIn (tgt := 126) (off := 125) dX8_count_1 (by decide) (by decide) (by decide) rfl ?_
      refine (ex_al0 dX8_count_126 (ex_getR dX8_count_127 flX8_52 (gx0 hG) (gr0_7 hG) (ex_getI dX8_count_130 flX8_113 (pi_sh (pi67 hG)) (ex_top (hsz) (ex_ri dX8_count_133 rfl rfl (⟨rfl, hg, fun _ _ => rfl⟩))))))
    · refine ex_tableIn (tgt := 134) (off := 133) dX8_count_1 (by decide) (by decide) (by decide) rfl ?_
      refine (ex_al0 dX8_count_134 (ex_getR dX8_count_135 flX8_10 (gx0 hG) (gr0_0 hG) (ex_getI dX8_count_138 flX8_96 (gx1 hG) (ex_top (hg.2.2.2.2.2.1) (ex_ri dX8_count_141 rfl rfl (⟨rfl, hg, fun _ _ => rfl⟩))))))
  · have hw2 : inB w (nI 0) (nI 8) = false := by simpa using hw
    refine (ex_il1 dX8_count_0 ?_)
    refine ex_tableOut (tgt := 142) dX8_count_1 ?_ rfl ?_
    · have := hw2
      simp only [inB, Bool.and_eq_false_iff, decide_eq_false_iff_not, i_le_iff] at this
      rw [show (nI 0).toInt = 0 by decide, show (nI 8).toInt = 8 by decide] at this
      omega
    · refine (ex_iconst (v := (-1)) dX8_count_142 rfl (ex_ri dX8_count_143 rfl rfl (⟨by simp [d_count, hw2], hg, fun _ _ => rfl⟩)))
theorem s_owed {sh : Sh} {Mr : MR} {L D : Nat} (hG : GX sh Mr L D) (M : MM) (g : Sg) (hg : RX M L g) (hv : sgV g) (w : Int32) : CtI mX8_owed [.ref 0, .int w] sh Mr M (PX L M (d_owed g w)) := by
  have h6 := hv.1.1.1
  refine ct_of (mi := mX8_owed) (ls := [some (.ref 0), some (.int w), none, none]) rfl rfl (Nat.le_of_ble_eq_true rfl) rfl ?_
  refine (ex_il1 dX8_owed_0 (ex_iconst (v := nI 0) dX8_owed_1 rfl (ex_iconst (v := nI 1) dX8_owed_2 rfl (ex_SP3 dX8_owed_3 lkX8_103 ⟨(Nat.le_of_ble_eq_true rfl), (Nat.le_of_ble_eq_true rfl)⟩ ⟨Nat.le_refl _, Nat.le_refl _⟩ (Nat.le_of_ble_eq_true rfl) (x_within _ _ _ _ _ _) (ex_ifB_ne (tgt := 11) dX8_owed_6 rfl (fun c6 => ?_) (fun c6 => ?_))))))
  · refine (ex_iconst (v := nI 0) dX8_owed_11 rfl (ex_is2 dX8_owed_12 (Nat.le_of_ble_eq_true rfl) rfl (ex_iconst (v := nI 0) dX8_owed_13 rfl (ex_is3 dX8_owed_14 (Nat.le_of_ble_eq_true rfl) rfl ?_))))
    refine ex_for (I := fun i ls M' => ls = [some (.ref 0), some (.int w), some (.int (smI (if w = nI 0 then g.2.1.2.2.1 else g.1.1.2.2.1) i)), some (.int (nI i))] ∧ M' = M) g.1.1.1 ?_ ?_ 0 _ _ (Nat.zero_le _) ⟨rfl, rfl⟩
    · intro i ls M' hi h ih
      obtain ⟨rfl, rfl⟩ := h
      refine (ex_il3 dX8_owed_15 (ex_al0 dX8_owed_16 (ex_getR dX8_owed_17 flX8_26 (gx0 hG) (gr0_2 hG) (ex_getI dX8_owed_20 flX8_107 (la_sh (laL hG)) (ex_top (hg.1.1.1) (ex_icmp_geN (tgt := 60) dX8_owed_23 rfl (by omega) (by omega) (fun c23 => (absurd c23 (by omega))) (fun c23 => (ex_il2 dX8_owed_26 (ex_il1 dX8_owed_27 (ex_if_ne (tgt := 43) dX8_owed_28 rfl (fun c28 => ?_) (fun c28 => ?_)))))))))))
      · have e : ¬ w = nI 0 := by rw [nI_0]; exact c28
        refine (ex_al0 dX8_owed_43 (ex_getR dX8_owed_44 flX8_26 (gx0 hG) (gr0_2 hG) (ex_getR dX8_owed_47 flX8_127 (la_sh (laL hG)) (la_r4 (laL hG)) (ex_il3 dX8_owed_50 (ex_ildN dX8_owed_51 (la_a4 (laL hG)) (by omega) (by omega) (ex_top ((hg.1.1.2.2 i hi).2.2.1) (ex_iadd dX8_owed_52 (ex_is2 dX8_owed_53 (Nat.le_of_ble_eq_true rfl) rfl (ex_inc3 dX8_owed_54 (Nat.le_of_ble_eq_true rfl) rfl (inc1 _) (ex_goto (tgt := 15) dX8_owed_57 rfl ?_))))))))))
        refine ih _ _ ⟨?_, rfl⟩
        rw [smI_s, if_neg e]
      · have e : w = nI 0 := by rw [nI_0]; exact c28
        refine (ex_al0 dX8_owed_31 (ex_getR dX8_owed_32 flX8_36 (gx0 hG) (gr0_4 hG) (ex_getR dX8_owed_35 flX8_133 (sa_sh (sa25 hG)) (sa_r1 (sa25 hG)) (ex_il3 dX8_owed_38 (ex_ildN dX8_owed_39 (sa_a1 (sa25 hG)) (by omega) (by omega) (ex_top ((hg.2.1.2.2 i hi).1) (ex_goto (tgt := 52) dX8_owed_40 rfl (ex_iadd dX8_owed_52 (ex_is2 dX8_owed_53 (Nat.le_of_ble_eq_true rfl) rfl (ex_inc3 dX8_owed_54 (Nat.le_of_ble_eq_true rfl) rfl (inc1 _) (ex_goto (tgt := 15) dX8_owed_57 rfl ?_)))))))))))
        refine ih _ _ ⟨?_, rfl⟩
        rw [smI_s, if_pos e]
    · intro ls M' h
      obtain ⟨rfl, rfl⟩ := h
      refine (ex_il3 dX8_owed_15 (ex_al0 dX8_owed_16 (ex_getR dX8_owed_17 flX8_26 (gx0 hG) (gr0_2 hG) (ex_getI dX8_owed_20 flX8_107 (la_sh (laL hG)) (ex_top (hg.1.1.1) (ex_icmp_geN (tgt := 60) dX8_owed_23 rfl (by omega) (by omega) (fun c23 => (ex_il2 dX8_owed_60 (ex_ri dX8_owed_61 rfl rfl (⟨by simp only [d_owed, c6, if_true]; by_cases e : w = nI 0 <;> simp [e], hg, fun _ _ => rfl⟩)))) (fun c23 => (absurd (Nat.le_refl _) c23))))))))
  · refine (ex_iconst (v := (-1)) dX8_owed_9 rfl (ex_ri dX8_owed_10 rfl rfl (⟨by simp [d_owed, c6], hg, fun _ _ => rfl⟩)))
theorem s_panes {sh : Sh} {Mr : MR} {L D : Nat} (hG : GX sh Mr L D) (M : MM) (g : Sg) (hg : RX M L g) (hv : sgV g) : CtI mX8_panes [.ref 0] sh Mr M (PX L M (d_panes g)) := by
  have hL := GL hG
  refine ct_of (mi := mX8_panes) (ls := [some (.ref 0)]) rfl rfl (Nat.le_of_ble_eq_true rfl) rfl ?_
  refine (ex_al0 dX8_panes_0 (ex_VV0 dX8_panes_1 lkX8_154 (gx0 hG) ⟨_, _, rfl⟩ ⟨(Nat.le_of_ble_eq_true rfl), (Nat.le_of_ble_eq_true rfl)⟩ ⟨Nat.le_refl _, Nat.le_refl _⟩ (Nat.le_of_ble_eq_true rfl) (x_now hG M g hg hv) (fun M1 h1 => ?_)))
  have hg1 := h1.R (by omega) hg
  refine (ex_al0 dX8_panes_4 (ex_getR dX8_panes_5 flX8_58 (gx0 hG) (gr0_8 hG) (ex_VI0 dX8_panes_8 lkX8_257 (gx77 hG) ⟨_, _, rfl⟩ ⟨(Nat.le_of_ble_eq_true rfl), (Nat.le_of_ble_eq_true rfl)⟩ ⟨Nat.le_refl _, Nat.le_refl _⟩ (Nat.le_of_ble_eq_true rfl) (x_darkStripes hG M1 _ hg1.2.2.2.2.1) (fun v8 M8 h8 => ?_))))
  obtain ⟨rfl, hb⟩ := h8
  have hbb : ∀ s, s < 32 → bt (v8 &&& M8 80 3) s = (anyb (fun k => decide (g.2.2.2.2.1.2.2 k = 4) && decide (g.2.2.2.2.1.2.1 k = s)) g.2.2.2.2.1.1 && (decide (s < 24) && (wh g.1 g.2.1 s).isSome)) := fun s hs => by rw [b_and, hb s hs, h1.2.1.1 s hs]
  refine (ex_al0 dX8_panes_11 (ex_getR dX8_panes_12 flX8_65 (gx0 hG) (gr0_9 hG) (ex_getI dX8_panes_15 flX8_233 (gx80 hG) (ex_iand dX8_panes_18 (ex_SP1 dX8_panes_19 lkX8_222 ⟨(Nat.le_of_ble_eq_true rfl), (Nat.le_of_ble_eq_true rfl)⟩ ⟨Nat.le_refl _, Nat.le_refl _⟩ (Nat.le_of_ble_eq_true rfl) (x_bc _ 24 (by omega) (fun i e1 e2 => by rw [hbb i e2]; simp [show ¬ i < 24 by omega]) _ _ _) (ex_ri dX8_panes_22 rfl rfl ?_))))))
  refine ⟨?_, hg1, h1.u⟩
  show nI _ = nI _
  congr 1
  refine cnt_congr 24 (fun i hi => ?_)
  rw [hbb i (by omega)]
  simp [hi]
