/-! the class: lay -/
theorem mrt_n : ∀ q ∈ MRT, ¬ (q.1 = 0 ∧ (q.2.1 = 2 ∨ q.2.1 = 3)) := by decide
theorem gx_swap {sh : Sh} {Mr : MR} {L D : Nat} (hG : GX sh Mr L D) : GX sh (wrR (wrR Mr 0 2 (some D)) 0 3 (some L)) D L := by
  refine ⟨hG.1, fun i c k a h => ?_, by simp [wrR], by simp [wrR], by have := hG.2.2.2.2; omega⟩
  have h1 := mrt_n _ (List.mem_of_getElem? h)
  have h2 := hG.2.1 i c k a h
  simp only at h1
  unfold wrR
  by_cases hc : c = 0
  · subst hc
    have hk2 : k ≠ 2 := fun e => h1 ⟨rfl, Or.inl e⟩
    have hk3 : k ≠ 3 := fun e => h1 ⟨rfl, Or.inr e⟩
    simp [hk2, hk3, h2]
  · simp [hc, h2]
/-- what a call of the class leaves -/
def QL (sh : Sh) (Mr : MR) (M : MM) (r : Int32 × Sg) : Option AV → Sh → MR → MM → Prop := fun v sh' Mr' M' => sh' = sh ∧ v = some (.int r.1) ∧ (∀ c, c ≠ 0 → Mr' c = Mr c) ∧ (∃ L D, GX sh Mr' L D ∧ RX M' L r.2) ∧ ∀ c, 94 ≤ c → M' c = M c
theorem x_layT {sh : Sh} {Mr : MR} {L D : Nat} (hG : GX sh Mr L D) (M : MM) (g : Sg) (r : Rd) (hr : LdR M L r) (h1 : PkX M 33 8 g.1.1.1 g.2.2.1) (h2 : PkX M 67 2 g.1.1.1 g.2.2.2.1) (h3 : TxX M g.2.2.2.2.2) (v1 : Option AV) (Q : Option AV → Sh → MR → MM → Prop) (hq : ∀ M', RX M' L (layG g r) → (∀ c, 94 ≤ c → M' c = M c) → Q (some (.int (nI r.1.1.1))) sh Mr M') : Ex mX8_lay (rmOf mX8_lay 0 0) (ZM sh 0 0 Q) XTr 0 0 51 [some (.ref 0), v1] [] sh Mr M := by
  have hL := GL hG
  refine (ex_al0 dX8_lay_51 (ex_getR dX8_lay_52 flX8_36 (gx0 hG) (gr0_4 hG) (ex_al0 dX8_lay_55 (ex_getR dX8_lay_56 flX8_26 (gx0 hG) (gr0_2 hG) (ex_VV1 dX8_lay_59 lkX8_99 (sa_sh (sa25 hG)) ⟨_, _, rfl⟩ ⟨(Nat.le_of_ble_eq_true rfl), (Nat.le_of_ble_eq_true rfl)⟩ ⟨Nat.le_refl _, Nat.le_refl _⟩ (Nat.le_of_ble_eq_true rfl) (x_begin (sa25 hG) (laL hG) (by omega) M) (fun M59 h59 => ?_))))))
  obtain ⟨f1, f2, f3, f4⟩ := h59
  have hL0 : wr (wr (wr M59 77 2 (nI 0)) 33 2 (nI 0)) 67 2 (nI 0) L 0 = nI r.1.1.1 := by rw [wr_oc (by omega), wr_oc (by omega), wr_oc (by omega), f1 L (by omega)]; exact hr.1.1.1
  refine (ex_al0 dX8_lay_62 (ex_getR dX8_lay_63 flX8_58 (gx0 hG) (gr0_8 hG) (ex_iconst (v := nI 0) dX8_lay_66 rfl (ex_putI dX8_lay_67 (fpX8_110 _) (gx77 hG) (ex_al0 dX8_lay_70 (ex_getR dX8_lay_71 flX8_48 (gx0 hG) (gr0_6 hG) (ex_iconst (v := nI 0) dX8_lay_74 rfl (ex_putI dX8_lay_75 (fpX8_113 _) (pi_sh (pi33 hG)) (ex_al0 dX8_lay_78 (ex_getR dX8_lay_79 flX8_52 (gx0 hG) (gr0_7 hG) (ex_iconst (v := nI 0) dX8_lay_82 rfl (ex_putI dX8_lay_83 (fpX8_113 _) (pi_sh (pi67 hG)) (ex_al0 dX8_lay_86 (ex_getR dX8_lay_87 flX8_26 (gx0 hG) (gr0_2 hG) (ex_getI dX8_lay_90 flX8_107 (la_sh (laL hG)) (ex_top (hL0) ?_))))))))))))))))
  have hc : ∀ c, c ≠ 77 → c ≠ 33 → c ≠ 67 → wr (wr (wr M59 77 2 (nI 0)) 33 2 (nI 0)) 67 2 (nI 0) c = M59 c := fun c e1 e2 e3 => by rw [wr_oc e3, wr_oc e2, wr_oc e1]
  have h6 := hr.1.1.2.1
  have hpk : ∀ (P q n : Nat) (u : Pk) (f : Nat → St), (P = 33 ∨ P = 67) → PkX M P q n u → PkX (wr (wr (wr M59 77 2 (nI 0)) 33 2 (nI 0)) 67 2 (nI 0)) P q r.1.1.1 (0, f) := fun P q n u f hP hp => by
    obtain ⟨b, p1, p2, p3, p4, p5⟩ := hp
    refine ⟨b, ?_, p2, ?_, Nat.zero_le _, fun k hk => absurd hk (Nat.not_lt_zero k)⟩
    · rcases hP with rfl | rfl
      · rw [wr_oc (by omega), wr_oi (by omega), wr_oc (by omega), f1 _ (by omega)]; exact p1
      · rw [wr_oi (by omega), wr_oc (by omega), wr_oc (by omega), f1 _ (by omega)]; exact p1
    · rcases hP with rfl | rfl
      · rw [wr_oc (by omega), wr_s]
      · rw [wr_s]
  refine ex_iret dX8_lay_93 rfl rfl rfl (hq _ ⟨?_, ⟨?_, ?_, fun i hi => ?_⟩, hpk 33 8 _ _ _ (Or.inl rfl) h1, hpk 67 2 _ _ _ (Or.inr rfl) h2, ⟨?_, Nat.zero_le _, fun k hk => absurd hk (Nat.not_lt_zero k)⟩, ?_⟩ (fun c h => ?_))
  · exact hr.1.of (fun c e1 e2 => (hc c (by omega) (by omega) (by omega)).trans (f1 c (by omega)))
  · rw [hc 25 (by omega) (by omega) (by omega)]; exact f2
  · rw [hc 25 (by omega) (by omega) (by omega)]; exact f3
  · have hi : i < r.1.1.1 := hi
    obtain ⟨k1, k2, k3⟩ := f4 i (by omega)
    obtain ⟨k4, k5⟩ := hr.2 i hi
    rw [hc _ (by omega) (by omega) (by omega), hc _ (by omega) (by omega) (by omega), hc _ (by omega) (by omega) (by omega)]
    exact ⟨k1, k2.trans k4, k3.trans k5⟩
  · rw [wr_oc (by omega), wr_oc (by omega), wr_s]; rfl
  · exact h3.of ((hc 1 (by omega) (by omega) (by omega)).trans (f1 1 (by omega))) ((hc 2 (by omega) (by omega) (by omega)).trans (f1 2 (by omega)))
  · exact (hc c (by omega) (by omega) (by omega)).trans (f1 c (by omega))
theorem s_lay {sh : Sh} {Mr : MR} {L D : Nat} (hG : GX sh Mr L D) (M : MM) (g : Sg) (hg : RX M L g) : Ct mX8_lay XTr [.ref 0] sh Mr M 0 0 (QL sh Mr M (d_lay g)) := by
  have hL := GL hG
  have hD := GD hG
  refine ct_of (mi := mX8_lay) (ls := [some (.ref 0), none]) rfl rfl (Nat.le_of_ble_eq_true rfl) rfl ?_
  refine (ex_al0 dX8_lay_0 (ex_getR dX8_lay_1 flX8_19 (gx0 hG) (gr0_1 hG) (ex_al0 dX8_lay_4 (ex_getR dX8_lay_5 flX8_10 (gx0 hG) (gr0_0 hG) (ex_al0 dX8_lay_8 (ex_getR dX8_lay_9 flX8_30 (gx0 hG) (gr0_3 hG) (ex_VI2 dX8_lay_12 lkX8_92 (gx3 hG) ⟨_, _, rfl⟩ ⟨(Nat.le_of_ble_eq_true rfl), (Nat.le_of_ble_eq_true rfl)⟩ ⟨Nat.le_refl _, Nat.le_refl _⟩ (Nat.le_of_ble_eq_true rfl) (x_readAll hG (laD hG) (by omega) M _ hg.2.2.2.2.2) (fun v12 M12 h12 => ?_))))))))
  obtain ⟨f1, rfl, f3⟩ := h12
  have hg2 : RX M12 L g := hg.of (fun c hc => f1 c (by omega) (by omega))
  have hu : ∀ c, 94 ≤ c → M12 c = M c := fun c hc => f1 c (by omega) (by omega)
  have hno : d_lay g = (-2, g) → QL sh Mr M (d_lay g) (some (.int (-2))) sh Mr M12 := fun hd => by
    rw [hd]
    exact ⟨rfl, rfl, fun _ _ => rfl, ⟨L, D, hG, hg2⟩, hu⟩
  refine (ex_bipush (v := (-4)) dX8_lay_15 rfl (ex_icmp_ne (tgt := 30) dX8_lay_17 rfl (fun c17 => ?_) (fun c17 => ?_)))
  · refine (ex_bipush (v := (-2)) dX8_lay_30 rfl ?_)
    exact ex_iret dX8_lay_32 rfl rfl rfl (hno (by unfold d_lay; rw [if_neg (fun h => c17 h.1)]))
  · have hR := f3 c17
    have hR6 := hR.1.1.2.1
    refine (ex_al0 dX8_lay_20 (ex_getR dX8_lay_21 flX8_30 (gx0 hG) (gr0_3 hG) (ex_getI dX8_lay_24 flX8_107 (la_sh (laD hG)) (ex_top (hR.1.1.1) (ex_if_neN (tgt := 33) dX8_lay_27 rfl (by omega) (fun c27 => ?_) (fun c27 => ?_))))))
    · refine (ex_al0 dX8_lay_33 (ex_getR dX8_lay_34 flX8_26 (gx0 hG) (gr0_2 hG) (ex_as1 dX8_lay_37 (Nat.le_of_ble_eq_true rfl) rfl (ex_al0 dX8_lay_38 (ex_al0 dX8_lay_39 (ex_getR dX8_lay_40 flX8_30 (gx0 hG) (gr0_3 hG) (ex_putR dX8_lay_43 (fpX8_26 _) (gx0 hG) (ex_al0 dX8_lay_46 (ex_al1 dX8_lay_47 (ex_putR dX8_lay_48 (fpX8_30 _) (gx0 hG) ?_))))))))))
      refine x_layT (gx_swap hG) M12 g _ hR hg2.2.2.1 hg2.2.2.2.1 hg2.2.2.2.2.2 _ _ (fun M' k1 k2 => ?_)
      have hd : d_lay g = (nI (prs g.2.2.2.2.2 200 0 rd0).2.1.1.1, layG g (prs g.2.2.2.2.2 200 0 rd0).2) := by unfold d_lay; rw [if_pos ⟨c17, c27⟩]
      rw [hd]
      refine ⟨rfl, rfl, fun c h => ?_, ⟨D, L, gx_swap hG, k1⟩, fun c h => (k2 c h).trans (hu c h)⟩
      rw [wrR_oc h, wrR_oc h]
    · refine (ex_bipush (v := (-2)) dX8_lay_30 rfl ?_)
      exact ex_iret dX8_lay_32 rfl rfl rfl (hno (by unfold d_lay; rw [if_neg (fun h => h.2 c27)]))
