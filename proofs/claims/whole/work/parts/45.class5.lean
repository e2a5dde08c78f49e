/-! the class: reading -/
/-- the leases at Q hold what was read -/
def LdR (M : MM) (Q : Nat) (r : Rd) : Prop := LdX M Q r.1 ∧ ∀ i, i < r.1.1.1 → M (Q + 2) i = nI (r.2.1 i) ∧ M (Q + 3) i = nI (r.2.2 i)
def NmX (M : MM) (n : Nat) (v : Nat → Nat) : Prop := ∀ k, k < n → M 4 k = nI (v k) ∧ v k ≤ 99
def QAc (Q : Nat) (M : MM) (r : Rd) (ok : Bool) (put : Rd) : Int32 → MM → Prop := fun w M' => w = bI ok ∧ (∀ c, c < Q ∨ Q + 10 ≤ c → M' c = M c) ∧ LdR M' Q (if ok then put else r)
theorem QAc.no {Q : Nat} {M : MM} {r : Rd} {ok : Bool} {put : Rd} (h : LdR M Q r) (ho : ok = false) : QAc Q M r ok put (nI 0) M := by
  subst ho
  exact ⟨rfl, fun _ _ => rfl, h⟩
theorem x_setFog {sh : Sh} {Mr : MR} {Q : Nat} (hQ : LA sh Mr Q) (M : MM) (r : Rd) (hr : LdR M Q r) (v : Nat → Nat) (hv : ∀ k, k < 3 → v k ≤ 99) : CtI mX1_setFog [.ref Q, .int (nI (v 0)), .int (nI (v 1)), .int (nI (v 2))] sh Mr M (QAc Q M r (okF v) (setF r v)) := by
  have v0 := hv 0 (by omega)
  have v1 := hv 1 (by omega)
  have v2 := hv 2 (by omega)
  refine ct_of (mi := mX1_setFog) (ls := [some (.ref Q), some (.int (nI (v 0))), some (.int (nI (v 1))), some (.int (nI (v 2)))]) rfl rfl (Nat.le_of_ble_eq_true rfl) rfl ?_
  refine (ex_il1 dX1_setFog_0 (ex_il2 dX1_setFog_1 (ex_iaddN dX1_setFog_2 (ex_il3 dX1_setFog_3 (ex_iaddN dX1_setFog_4 (ex_bipush (v := nI 10) dX1_setFog_5 rfl (ex_icmp_leN (tgt := 12) dX1_setFog_7 rfl (by omega) (by omega) (fun c7 => ?_) (fun c7 => ?_))))))))
  · refine (ex_al0 dX1_setFog_12 (ex_getR dX1_setFog_13 flX1_36 (la_sh hQ) (la_r10 hQ) (ex_iconst (v := nI 0) dX1_setFog_16 rfl (ex_il1 dX1_setFog_17 (ex_istN dX1_setFog_18 (la_a10 hQ) (by omega) (by omega) (ex_al0 dX1_setFog_19 (ex_getR dX1_setFog_20 flX1_36 (la_sh hQ) (la_r10 hQ) (ex_iconst (v := nI 1) dX1_setFog_23 rfl (ex_il2 dX1_setFog_24 (ex_istN dX1_setFog_25 (la_a10 hQ) (by omega) (by omega) (ex_al0 dX1_setFog_26 (ex_getR dX1_setFog_27 flX1_36 (la_sh hQ) (la_r10 hQ) (ex_iconst (v := nI 2) dX1_setFog_30 rfl (ex_il3 dX1_setFog_31 (ex_istN dX1_setFog_32 (la_a10 hQ) (by omega) (by omega) (ex_al0 dX1_setFog_33 (ex_getR dX1_setFog_34 flX1_36 (la_sh hQ) (la_r10 hQ) (ex_iconst (v := nI 3) dX1_setFog_37 rfl (ex_bipush (v := nI 10) dX1_setFog_38 rfl (ex_il1 dX1_setFog_40 (ex_isubN dX1_setFog_41 (by omega) (ex_il2 dX1_setFog_42 (ex_isubN dX1_setFog_43 (by omega) (ex_il3 dX1_setFog_44 (ex_isubN dX1_setFog_45 (by omega) (ex_istN dX1_setFog_46 (la_a10 hQ) (by omega) (by omega) (ex_iconst (v := nI 1) dX1_setFog_47 rfl (ex_ri dX1_setFog_48 rfl rfl ?_))))))))))))))))))))))))))))
    have ho : okF v = true := by unfold okF; simp; omega
    refine ⟨bI_tt ho, fun c hc => by rw [wr_oc (by omega), wr_oc (by omega), wr_oc (by omega), wr_oc (by omega)], ?_⟩
    rw [ho, if_pos rfl]
    obtain ⟨⟨a, b, c, d⟩, e⟩ := hr
    refine ⟨⟨?_, ?_, fun f hf => ?_, ?_⟩, ?_⟩
    · simp [wr]; exact a
    · simp [wr]; exact b
    · show _ = nI (fog3 (v 0) (v 1) (v 2) f)
      rcases (show f = 0 ∨ f = 1 ∨ f = 2 ∨ f = 3 by omega) with rfl | rfl | rfl | rfl <;> simp [wr, fog3]
    · simp [wr]; exact d
    · simp [wr]; exact e
  · refine (ex_iconst (v := nI 0) dX1_setFog_10 rfl (ex_ri dX1_setFog_11 rfl rfl ?_))
    exact QAc.no hr (by unfold okF; simp; omega)
theorem x_clear {sh : Sh} {Mr : MR} {Q : Nat} (hQ : LA sh Mr Q) (M : MM) : CtV mX1_clear [.ref Q] sh Mr M (fun M' => (∀ c, c < Q ∨ Q + 10 ≤ c → M' c = M c) ∧ LdR M' Q rd0) := by
  have F : ∀ M : MM, CtI mX1_setFog [.ref Q, .int (nI 4), .int (nI 3), .int (nI 2)] sh Mr M (fun _ M' => (∀ c, c ≠ Q + 9 → M' c = M c) ∧ ∀ f, f < 4 → M' (Q + 9) f = nI (fog3 4 3 2 f)) := by
    intro M
    refine ct_of (mi := mX1_setFog) (ls := [some (.ref Q), some (.int (nI 4)), some (.int (nI 3)), some (.int (nI 2))]) rfl rfl (Nat.le_of_ble_eq_true rfl) rfl ?_
    refine (ex_il1 dX1_setFog_0 (ex_il2 dX1_setFog_1 (ex_iaddN dX1_setFog_2 (ex_il3 dX1_setFog_3 (ex_iaddN dX1_setFog_4 (ex_bipush (v := nI 10) dX1_setFog_5 rfl (ex_icmp_leN (tgt := 12) dX1_setFog_7 rfl (by omega) (by omega) (fun c7 => (ex_al0 dX1_setFog_12 (ex_getR dX1_setFog_13 flX1_36 (la_sh hQ) (la_r10 hQ) (ex_iconst (v := nI 0) dX1_setFog_16 rfl (ex_il1 dX1_setFog_17 (ex_istN dX1_setFog_18 (la_a10 hQ) (by omega) (by omega) (ex_al0 dX1_setFog_19 (ex_getR dX1_setFog_20 flX1_36 (la_sh hQ) (la_r10 hQ) (ex_iconst (v := nI 1) dX1_setFog_23 rfl (ex_il2 dX1_setFog_24 (ex_istN dX1_setFog_25 (la_a10 hQ) (by omega) (by omega) (ex_al0 dX1_setFog_26 (ex_getR dX1_setFog_27 flX1_36 (la_sh hQ) (la_r10 hQ) (ex_iconst (v := nI 2) dX1_setFog_30 rfl (ex_il3 dX1_setFog_31 (ex_istN dX1_setFog_32 (la_a10 hQ) (by omega) (by omega) (ex_al0 dX1_setFog_33 (ex_getR dX1_setFog_34 flX1_36 (la_sh hQ) (la_r10 hQ) (ex_iconst (v := nI 3) dX1_setFog_37 rfl (ex_bipush (v := nI 10) dX1_setFog_38 rfl (ex_il1 dX1_setFog_40 (ex_isubN dX1_setFog_41 (by omega) (ex_il2 dX1_setFog_42 (ex_isubN dX1_setFog_43 (by omega) (ex_il3 dX1_setFog_44 (ex_isubN dX1_setFog_45 (by omega) (ex_istN dX1_setFog_46 (la_a10 hQ) (by omega) (by omega) (ex_iconst (v := nI 1) dX1_setFog_47 rfl (ex_ri dX1_setFog_48 rfl rfl ?_))))))))))))))))))))))))))))) (fun c7 => (absurd (by decide) c7)))))))))
    refine ⟨fun c hc => by rw [wr_oc hc, wr_oc hc, wr_oc hc, wr_oc hc], fun f hf => ?_⟩
    rcases (show f = 0 ∨ f = 1 ∨ f = 2 ∨ f = 3 by omega) with rfl | rfl | rfl | rfl <;> simp [wr, fog3]
  refine ct_of (mi := mX1_clear) (ls := [some (.ref Q)]) rfl rfl (Nat.le_of_ble_eq_true rfl) rfl ?_
  refine (ex_al0 dX1_clear_0 (ex_iconst (v := nI 0) dX1_clear_1 rfl (ex_putI dX1_clear_2 (fpX1_39 _) (la_sh hQ) (ex_al0 dX1_clear_5 (ex_iconst (v := nI 0) dX1_clear_6 rfl (ex_putI dX1_clear_7 (fpX1_43 _) (la_sh hQ) (ex_al0 dX1_clear_10 (ex_iconst (v := nI 4) dX1_clear_11 rfl (ex_iconst (v := nI 3) dX1_clear_12 rfl (ex_iconst (v := nI 2) dX1_clear_13 rfl (ex_VI3 dX1_clear_14 lkX1_46 (la_sh hQ) ⟨_, _, rfl⟩ ⟨(Nat.le_of_ble_eq_true rfl), (Nat.le_of_ble_eq_true rfl)⟩ ⟨Nat.le_refl _, Nat.le_refl _⟩ (Nat.le_of_ble_eq_true rfl) (F _) (fun v14 M14 h14 => ?_))))))))))))
  obtain ⟨f1, f2⟩ := h14
  refine (ex_popI dX1_clear_17 (ex_al0 dX1_clear_18 (ex_bipush (v := nI 20) dX1_clear_19 rfl (ex_putI dX1_clear_21 (fpX1_50 _) (la_sh hQ) (ex_rv dX1_clear_24 rfl ?_)))))
  refine ⟨fun c hc => by rw [wr_oc (by omega), f1 c (by omega), wr_oc (by omega), wr_oc (by omega)], ⟨⟨?_, by decide, fun i hi => absurd hi (Nat.not_lt_zero i)⟩, ⟨?_, by decide, fun i hi => absurd hi (Nat.not_lt_zero i)⟩, fun f hf => ?_, wr_s⟩, fun i hi => absurd hi (Nat.not_lt_zero i)⟩
  · rw [wr_oi (by omega), f1 Q (by omega), wr_oi (by omega), wr_s]; rfl
  · rw [wr_oi (by omega), f1 Q (by omega), wr_s]; rfl
  · rw [wr_oc (by omega)]; exact f2 f hf
theorem x_setLimit {sh : Sh} {Mr : MR} {Q : Nat} (hQ : LA sh Mr Q) (M : MM) (r : Rd) (hr : LdR M Q r) (v : Nat → Nat) (hv : v 0 ≤ 99) : CtI mX1_setLimit [.ref Q, .int (nI (v 0))] sh Mr M (QAc Q M r (okB v) (setB r v)) := by
  refine ct_of (mi := mX1_setLimit) (ls := [some (.ref Q), some (.int (nI (v 0)))]) rfl rfl (Nat.le_of_ble_eq_true rfl) rfl ?_
  refine (ex_il1 dX1_setLimit_0 (ex_bipush (v := nI 60) dX1_setLimit_1 rfl (ex_icmp_leN (tgt := 8) dX1_setLimit_3 rfl (by omega) (by omega) (fun c3 => ?_) (fun c3 => ?_))))
  · refine (ex_al0 dX1_setLimit_8 (ex_il1 dX1_setLimit_9 (ex_putI dX1_setLimit_10 (fpX1_50 _) (la_sh hQ) (ex_iconst (v := nI 1) dX1_setLimit_13 rfl (ex_ri dX1_setLimit_14 rfl rfl ?_)))))
    have ho : okB v = true := by unfold okB; simp; omega
    refine ⟨bI_tt ho, fun c hc => by rw [wr_oc (by omega)], ?_⟩
    rw [ho, if_pos rfl]
    obtain ⟨⟨a, b, c, d⟩, e⟩ := hr
    refine ⟨⟨?_, ?_, ?_, wr_s⟩, ?_⟩
    · simp [wr]; exact a
    · simp [wr]; exact b
    · simp [wr]; exact c
    · simp [wr]; exact e
  · refine (ex_iconst (v := nI 0) dX1_setLimit_6 rfl (ex_ri dX1_setLimit_7 rfl rfl ?_))
    exact QAc.no hr (by unfold okB; simp; omega)
theorem x_addShip {sh : Sh} {Mr : MR} {Q : Nat} (hQ : LA sh Mr Q) (M : MM) (r : Rd) (hr : LdR M Q r) (v : Nat → Nat) (hv : ∀ k, k < 2 → v k ≤ 99) : CtI mX1_addShip [.ref Q, .int (nI (v 0)), .int (nI (v 1))] sh Mr M (QAc Q M r (okS r v) (addS r v)) := by
  have v0 := hv 0 (by omega)
  have v1 := hv 1 (by omega)
  have h5 := hr.1.2.1.2.1
  have hn : M Q 6 = nI r.1.2.1.1 := hr.1.2.1.1
  refine ct_of (mi := mX1_addShip) (ls := [some (.ref Q), some (.int (nI (v 0))), some (.int (nI (v 1)))]) rfl rfl (Nat.le_of_ble_eq_true rfl) rfl ?_
  refine (ex_al0 dX1_addShip_0 (ex_getI dX1_addShip_1 flX1_43 (la_sh hQ) (ex_top (hn) (ex_iconst (v := nI 5) dX1_addShip_4 rfl (ex_icmp_geN (tgt := 16) dX1_addShip_5 rfl (by omega) (by omega) (fun c5 => ?_) (fun c5 => ?_))))))
  · refine (ex_iconst (v := nI 0) dX1_addShip_16 rfl (ex_ri dX1_addShip_17 rfl rfl ?_))
    exact QAc.no hr (by unfold okS; simp; omega)
  · refine (ex_il1 dX1_addShip_8 (ex_il2 dX1_addShip_9 (ex_SP2 dX1_addShip_10 lkX1_68 ⟨(Nat.le_of_ble_eq_true rfl), (Nat.le_of_ble_eq_true rfl)⟩ ⟨Nat.le_refl _, Nat.le_refl _⟩ (Nat.le_of_ble_eq_true rfl) (x_isPlace _ _ (by omega) (by omega) _ _ _) (ex_ifB_ne (tgt := 18) dX1_addShip_13 rfl (fun c13 => ?_) (fun c13 => ?_)))))
    · have hh := c13
      simp only [Bool.and_eq_true, decide_eq_true_eq] at hh
      have hp : 2 ^ v 1 ≤ 4096 := Nat.pow_le_pow_right (n := 2) (by decide) hh.2.2
      have hp1 : 1 ≤ 2 ^ v 1 := Nat.one_le_two_pow
      have ho : okS r v = true := by unfold okS; simp; omega
      refine (ex_al0 dX1_addShip_18 (ex_getR dX1_addShip_19 flX1_27 (la_sh hQ) (la_r7 hQ) (ex_al0 dX1_addShip_22 (ex_getI dX1_addShip_23 flX1_43 (la_sh hQ) (ex_top (hn) (ex_il1 dX1_addShip_26 (ex_istN dX1_addShip_27 (la_a7 hQ) (by omega) (by omega) (ex_al0 dX1_addShip_28 (ex_getR dX1_addShip_29 flX1_30 (la_sh hQ) (la_r8 hQ) (ex_al0 dX1_addShip_32 (ex_getI dX1_addShip_33 flX1_43 (la_sh hQ) (ex_top (y := nI ((r.1.2.1.1))) (by rw [wr_oc (by omega)]; exact hn) (ex_il2 dX1_addShip_36 (ex_istN dX1_addShip_37 (la_a8 hQ) (by omega) (by omega) (ex_al0 dX1_addShip_38 (ex_getR dX1_addShip_39 flX1_33 (la_sh hQ) (la_r9 hQ) (ex_al0 dX1_addShip_42 (ex_getI dX1_addShip_43 flX1_43 (la_sh hQ) (ex_top (y := nI ((r.1.2.1.1))) (by rw [wr_oc (by omega), wr_oc (by omega)]; exact hn) (ex_il1 dX1_addShip_46 (ex_iconst (v := nI 1) dX1_addShip_47 rfl (ex_il2 dX1_addShip_48 (ex_ishl dX1_addShip_49 (ex_top (y := nI ((2 ^ v 1))) (shl12 _ (by omega)) (ex_iconst (v := nI 1) dX1_addShip_50 rfl (ex_isubN dX1_addShip_51 (by omega) (ex_SI2 dX1_addShip_52 lkX1_71 ⟨(Nat.le_of_ble_eq_true rfl), (Nat.le_of_ble_eq_true rfl)⟩ ⟨Nat.le_refl _, Nat.le_refl _⟩ (Nat.le_of_ble_eq_true rfl) (x_stripesFrom _ _ (by omega) (by omega) _ _ _) (fun v52 M52 h52 => ?_))))))))))))))))))))))))))))
      obtain ⟨rfl, hb⟩ := h52
      refine (ex_istN dX1_addShip_55 (la_a9 hQ) (by omega) (by omega) (ex_al0 dX1_addShip_56 (ex_dupR dX1_addShip_57 (ex_getI dX1_addShip_58 flX1_43 (la_sh hQ) (ex_top (y := nI ((r.1.2.1.1))) (by rw [wr_oc (by omega), wr_oc (by omega), wr_oc (by omega)]; exact hn) (ex_iconst (v := nI 1) dX1_addShip_61 rfl (ex_iaddN dX1_addShip_62 (ex_putI dX1_addShip_63 (fpX1_43 _) (la_sh hQ) (ex_iconst (v := nI 1) dX1_addShip_66 rfl (ex_ri dX1_addShip_67 rfl rfl ?_))))))))))
      refine ⟨bI_tt ho, fun c hc => by rw [wr_oc (by omega), wr_oc (by omega), wr_oc (by omega), wr_oc (by omega)], ?_⟩
      rw [ho, if_pos rfl]
      obtain ⟨⟨a, ⟨b1, b2, b3⟩, c, d⟩, e⟩ := hr
      refine ⟨⟨?_, ⟨?_, ?_, fun k hk => ?_⟩, ?_, ?_⟩, ?_⟩
      · simp [wr]; exact a
      · simp [wr]; rfl
      · show r.1.2.1.1 + 1 ≤ 5; omega
      · have hk : k < r.1.2.1.1 + 1 := hk
        simp only [addS, up]
        by_cases e : k = r.1.2.1.1
        · subst e
          simp [wr]
          intro s hs
          rw [hb s hs, Nat.testBit_two_pow_sub_one]
          rfl
        · simp [wr, e]
          have := b3 k (by omega)
          simpa using this
      · simp [wr]; exact c
      · simp [wr]; exact d
      · simp [wr]; exact e
    · refine (ex_iconst (v := nI 0) dX1_addShip_16 rfl (ex_ri dX1_addShip_17 rfl rfl ?_))
      refine QAc.no hr ?_
      unfold okS
      rw [c13]
      simp
theorem x_addTenant {sh : Sh} {Mr : MR} {L D Q : Nat} (hG : GX sh Mr L D) (hQ : LA sh Mr Q) (h4 : 5 ≤ Q) (M : MM) (r : Rd) (hr : LdR M Q r) (v : Nat → Nat) (hv : NmX M 5 v) : CtI mX1_addTenant [.ref Q, .ref 4] sh Mr M (QAc Q M r (okT r v) (addT r v)) := by
  obtain ⟨v0, w0⟩ := hv 0 (by omega)
  obtain ⟨v1, w1⟩ := hv 1 (by omega)
  obtain ⟨v2, w2⟩ := hv 2 (by omega)
  obtain ⟨v3, w3⟩ := hv 3 (by omega)
  obtain ⟨v4, w4⟩ := hv 4 (by omega)
  have h6 := hr.1.1.2.1
  have hn : M Q 0 = nI r.1.1.1 := hr.1.1.1
  refine ct_of (mi := mX1_addTenant) (ls := [some (.ref Q), some (.ref 4)]) rfl rfl (Nat.le_of_ble_eq_true rfl) rfl ?_
  have J : okT r v = false → EI mX1_addTenant sh Mr (QAc Q M r (okT r v) (addT r v)) 55 [some (.ref Q), some (.ref 4)] [] M := by
    intro ho
    refine (ex_iconst (v := nI 0) dX1_addTenant_55 rfl (ex_ri dX1_addTenant_56 rfl rfl ?_))
    exact QAc.no hr ho
  refine (ex_al0 dX1_addTenant_0 (ex_getI dX1_addTenant_1 flX1_39 (la_sh hQ) (ex_top (hn) (ex_bipush (v := nI 6) dX1_addTenant_4 rfl (ex_icmp_geN (tgt := 55) dX1_addTenant_6 rfl (by omega) (by omega) (fun c6 => ?_) (fun c6 => ?_))))))
  · exact J (by unfold okT; simp; omega)
  · refine (ex_al1 dX1_addTenant_9 (ex_iconst (v := nI 0) dX1_addTenant_10 rfl (ex_ildN dX1_addTenant_11 (gx4 hG) (by omega) (by omega) (ex_top (v0) (ex_iconst (v := nI 0) dX1_addTenant_12 rfl (ex_iconst (v := nI 3) dX1_addTenant_13 rfl (ex_SP3 dX1_addTenant_14 lkX1_65 ⟨(Nat.le_of_ble_eq_true rfl), (Nat.le_of_ble_eq_true rfl)⟩ ⟨Nat.le_refl _, Nat.le_refl _⟩ (Nat.le_of_ble_eq_true rfl) (x_wi _ _ _ (by omega) (by omega) (by omega) _ _ _) (ex_ifB_eq (tgt := 55) dX1_addTenant_17 rfl (fun c17 => ?_) (fun c17 => ?_)))))))))
    · exact J (by simp at c17; unfold okT; simp; omega)
    · refine (ex_al1 dX1_addTenant_20 (ex_iconst (v := nI 1) dX1_addTenant_21 rfl (ex_ildN dX1_addTenant_22 (gx4 hG) (by omega) (by omega) (ex_top (v1) (ex_al1 dX1_addTenant_23 (ex_iconst (v := nI 2) dX1_addTenant_24 rfl (ex_ildN dX1_addTenant_25 (gx4 hG) (by omega) (by omega) (ex_top (v2) (ex_SP2 dX1_addTenant_26 lkX1_68 ⟨(Nat.le_of_ble_eq_true rfl), (Nat.le_of_ble_eq_true rfl)⟩ ⟨Nat.le_refl _, Nat.le_refl _⟩ (Nat.le_of_ble_eq_true rfl) (x_isPlace _ _ (by omega) (by omega) _ _ _) (ex_ifB_eq (tgt := 55) dX1_addTenant_29 rfl (fun c29 => ?_) (fun c29 => ?_)))))))))))
      · exact J (by simp at c29; unfold okT; simp; omega)
      · refine (ex_al1 dX1_addTenant_32 (ex_iconst (v := nI 3) dX1_addTenant_33 rfl (ex_ildN dX1_addTenant_34 (gx4 hG) (by omega) (by omega) (ex_top (v3) (ex_iconst (v := nI 0) dX1_addTenant_35 rfl (ex_bipush (v := nI 20) dX1_addTenant_36 rfl (ex_SP3 dX1_addTenant_38 lkX1_65 ⟨(Nat.le_of_ble_eq_true rfl), (Nat.le_of_ble_eq_true rfl)⟩ ⟨Nat.le_refl _, Nat.le_refl _⟩ (Nat.le_of_ble_eq_true rfl) (x_wi _ _ _ (by omega) (by omega) (by omega) _ _ _) (ex_ifB_eq (tgt := 55) dX1_addTenant_41 rfl (fun c41 => ?_) (fun c41 => ?_)))))))))
        · exact J (by simp at c41; unfold okT; simp; omega)
        · refine (ex_al1 dX1_addTenant_44 (ex_iconst (v := nI 4) dX1_addTenant_45 rfl (ex_ildN dX1_addTenant_46 (gx4 hG) (by omega) (by omega) (ex_top (v4) (ex_iconst (v := nI 0) dX1_addTenant_47 rfl (ex_iconst (v := nI 3) dX1_addTenant_48 rfl (ex_SP3 dX1_addTenant_49 lkX1_65 ⟨(Nat.le_of_ble_eq_true rfl), (Nat.le_of_ble_eq_true rfl)⟩ ⟨Nat.le_refl _, Nat.le_refl _⟩ (Nat.le_of_ble_eq_true rfl) (x_wi _ _ _ (by omega) (by omega) (by omega) _ _ _) (ex_ifB_ne (tgt := 57) dX1_addTenant_52 rfl (fun c52 => ?_) (fun c52 => ?_)))))))))
          · simp only [Bool.and_eq_true, decide_eq_true_eq] at c17 c29 c41 c52
            have ho : okT r v = true := by unfold okT; simp; omega
            refine (ex_al0 dX1_addTenant_57 (ex_getR dX1_addTenant_58 flX1_9 (la_sh hQ) (la_r1 hQ) (ex_al0 dX1_addTenant_61 (ex_getI dX1_addTenant_62 flX1_39 (la_sh hQ) (ex_top (hn) (ex_al1 dX1_addTenant_65 (ex_iconst (v := nI 0) dX1_addTenant_66 rfl (ex_ildN dX1_addTenant_67 (gx4 hG) (by omega) (by omega) (ex_top (v0) (ex_istN dX1_addTenant_68 (la_a1 hQ) (by omega) (by omega) (ex_al0 dX1_addTenant_69 (ex_getR dX1_addTenant_70 flX1_15 (la_sh hQ) (la_r2 hQ) (ex_al0 dX1_addTenant_73 (ex_getI dX1_addTenant_74 flX1_39 (la_sh hQ) (ex_top (y := nI ((r.1.1.1))) (by rw [wr_oc (by omega)]; exact hn) (ex_al1 dX1_addTenant_77 (ex_iconst (v := nI 1) dX1_addTenant_78 rfl (ex_ildN dX1_addTenant_79 (gx4 hG) (by omega) (by omega) (ex_top (y := nI ((v 1))) (by rw [wr_oc (by omega)]; exact v1) (ex_istN dX1_addTenant_80 (la_a2 hQ) (by omega) (by omega) (ex_al0 dX1_addTenant_81 (ex_getR dX1_addTenant_82 flX1_18 (la_sh hQ) (la_r3 hQ) (ex_al0 dX1_addTenant_85 (ex_getI dX1_addTenant_86 flX1_39 (la_sh hQ) (ex_top (y := nI ((r.1.1.1))) (by rw [wr_oc (by omega), wr_oc (by omega)]; exact hn) (ex_al1 dX1_addTenant_89 (ex_iconst (v := nI 2) dX1_addTenant_90 rfl (ex_ildN dX1_addTenant_91 (gx4 hG) (by omega) (by omega) (ex_top (y := nI ((v 2))) (by rw [wr_oc (by omega), wr_oc (by omega)]; exact v2) (ex_istN dX1_addTenant_92 (la_a3 hQ) (by omega) (by omega) (ex_al0 dX1_addTenant_93 (ex_getR dX1_addTenant_94 flX1_21 (la_sh hQ) (la_r4 hQ) (ex_al0 dX1_addTenant_97 (ex_getI dX1_addTenant_98 flX1_39 (la_sh hQ) (ex_top (y := nI ((r.1.1.1))) (by rw [wr_oc (by omega), wr_oc (by omega), wr_oc (by omega)]; exact hn) (ex_al1 dX1_addTenant_101 (ex_iconst (v := nI 3) dX1_addTenant_102 rfl (ex_ildN dX1_addTenant_103 (gx4 hG) (by omega) (by omega) (ex_top (y := nI ((v 3))) (by rw [wr_oc (by omega), wr_oc (by omega), wr_oc (by omega)]; exact v3) (ex_istN dX1_addTenant_104 (la_a4 hQ) (by omega) (by omega) (ex_al0 dX1_addTenant_105 (ex_getR dX1_addTenant_106 flX1_24 (la_sh hQ) (la_r5 hQ) (ex_al0 dX1_addTenant_109 (ex_getI dX1_addTenant_110 flX1_39 (la_sh hQ) (ex_top (y := nI ((r.1.1.1))) (by rw [wr_oc (by omega), wr_oc (by omega), wr_oc (by omega), wr_oc (by omega)]; exact hn) (ex_al1 dX1_addTenant_113 (ex_iconst (v := nI 4) dX1_addTenant_114 rfl (ex_ildN dX1_addTenant_115 (gx4 hG) (by omega) (by omega) (ex_top (y := nI ((v 4))) (by rw [wr_oc (by omega), wr_oc (by omega), wr_oc (by omega), wr_oc (by omega)]; exact v4) (ex_istN dX1_addTenant_116 (la_a5 hQ) (by omega) (by omega) (ex_al0 dX1_addTenant_117 (ex_dupR dX1_addTenant_118 (ex_getI dX1_addTenant_119 flX1_39 (la_sh hQ) (ex_top (y := nI ((r.1.1.1))) (by rw [wr_oc (by omega), wr_oc (by omega), wr_oc (by omega), wr_oc (by omega), wr_oc (by omega)]; exact hn) (ex_iconst (v := nI 1) dX1_addTenant_122 rfl (ex_iaddN dX1_addTenant_123 (ex_putI dX1_addTenant_124 (fpX1_39 _) (la_sh hQ) (ex_iconst (v := nI 1) dX1_addTenant_127 rfl (ex_ri dX1_addTenant_128 rfl rfl ?_)))))))))))))))))))))))))))))))))))))))))))))))))))))))))))
            refine ⟨bI_tt ho, fun c hc => by rw [wr_oc (by omega), wr_oc (by omega), wr_oc (by omega), wr_oc (by omega), wr_oc (by omega), wr_oc (by omega)], ?_⟩
            rw [ho, if_pos rfl]
            obtain ⟨⟨⟨a1, a2, a3⟩, b, c, d⟩, e⟩ := hr
            refine ⟨⟨⟨?_, ?_, fun k hk => ?_⟩, ?_, ?_, ?_⟩, fun k hk => ?_⟩
            · simp [wr]; rfl
            · show r.1.1.1 + 1 ≤ 6; omega
            · have hk : k < r.1.1.1 + 1 := hk
              simp only [addT, up]
              by_cases e : k = r.1.1.1
              · subst e
                simp [wr]
                omega
              · simp [wr, e]
                have := a3 k (by omega)
                simpa using this
            · simp [wr]; exact b
            · simp [wr]; exact c
            · simp [wr]; exact d
            · have hk : k < r.1.1.1 + 1 := hk
              simp only [addT, up]
              by_cases e2 : k = r.1.1.1
              · subst e2
                simp [wr]
              · simp [wr, e2]
                have := e k (by omega)
                simpa using this
          · exact J (by simp at c52; unfold okT; simp; omega)
