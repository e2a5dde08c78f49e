/-! the class: its calls -/
def RX (M : MM) (L : Nat) (g : Sg) : Prop := LdX M L g.1 ∧ stX M 25 g.1.1.1 g.2.1 ∧ PkX M 33 8 g.1.1.1 g.2.2.1 ∧ PkX M 67 2 g.1.1.1 g.2.2.2.1 ∧ LkX M g.2.2.2.2.1 ∧ TxX M g.2.2.2.2.2
theorem RX.of {M M' : MM} {L : Nat} {g : Sg} (h : RX M L g) (hc : ∀ c, (c = 1 ∨ c = 2 ∨ (L ≤ c ∧ c ≤ L + 9) ∨ (25 ≤ c ∧ c ≤ 28) ∨ (33 ≤ c ∧ c ≤ 79)) → M' c = M c) : RX M' L g := by
  obtain ⟨h1, h2, h3, h4, h5, h6⟩ := h
  exact ⟨h1.of (fun c e1 e2 => hc c (by omega)), h2.of (fun c e1 e2 => hc c (by omega)), h3.of (fun c e1 e2 => hc c (by omega)), h4.of (fun c e1 e2 => hc c (by omega)), h5.of (fun c e1 e2 => hc c (by omega)), h6.of (hc 1 (by omega)) (hc 2 (by omega))⟩
def PX (L : Nat) (M : MM) (r : Int32 × Sg) : Int32 → MM → Prop := fun v M' => v = r.1 ∧ RX M' L r.2 ∧ ∀ c, 94 ≤ c → M' c = M c
theorem plV_of {n : Nat} {x : St} (h : stV n x) : plV n x := ⟨by have := h.1; omega, fun i hi => ⟨(h.2.2 i hi).2.1, (h.2.2 i hi).2.2.2⟩⟩
theorem x_isT {sh : Sh} {Mr : MR} {L D : Nat} (hG : GX sh Mr L D) (M : MM) (g : Sg) (hg : RX M L g) (v : Int32) : CtP mX8_isTenant [.ref 0, .int v] sh Mr M (bI (isT g v)) := by
  refine ct_of (mi := mX8_isTenant) (ls := [some (.ref 0), some (.int v)]) rfl rfl (Nat.le_of_ble_eq_true rfl) rfl ?_
  refine (ex_il1 dX8_isTenant_0 (ex_iconst (v := nI 0) dX8_isTenant_1 rfl (ex_al0 dX8_isTenant_2 (ex_getR dX8_isTenant_3 flX8_26 (gx0 hG) (gr0_2 hG) (ex_getI dX8_isTenant_6 flX8_107 (la_sh (laL hG)) (ex_top (hg.1.1.1) (ex_iconst (v := nI 1) dX8_isTenant_9 rfl (ex_isub dX8_isTenant_10 (ex_SP3 dX8_isTenant_11 lkX8_103 ⟨(Nat.le_of_ble_eq_true rfl), (Nat.le_of_ble_eq_true rfl)⟩ ⟨Nat.le_refl _, Nat.le_refl _⟩ (Nat.le_of_ble_eq_true rfl) (x_within _ _ _ _ _ _) (ex_rb dX8_isTenant_14 rfl (⟨rfl, rfl⟩)))))))))))
theorem x_isS {sh : Sh} {Mr : MR} {L D : Nat} (hG : GX sh Mr L D) (M : MM) (g : Sg) (hg : RX M L g) (v : Int32) : CtP mX8_isShip [.ref 0, .int v] sh Mr M (bI (isS g v)) := by
  refine ct_of (mi := mX8_isShip) (ls := [some (.ref 0), some (.int v)]) rfl rfl (Nat.le_of_ble_eq_true rfl) rfl ?_
  refine (ex_il1 dX8_isShip_0 (ex_iconst (v := nI 0) dX8_isShip_1 rfl (ex_al0 dX8_isShip_2 (ex_getR dX8_isShip_3 flX8_26 (gx0 hG) (gr0_2 hG) (ex_getI dX8_isShip_6 flX8_278 (la_sh (laL hG)) (ex_top (hg.1.2.1.1) (ex_iconst (v := nI 1) dX8_isShip_9 rfl (ex_isub dX8_isShip_10 (ex_SP3 dX8_isShip_11 lkX8_103 ⟨(Nat.le_of_ble_eq_true rfl), (Nat.le_of_ble_eq_true rfl)⟩ ⟨Nat.le_refl _, Nat.le_refl _⟩ (Nat.le_of_ble_eq_true rfl) (x_within _ _ _ _ _ _) (ex_rb dX8_isShip_14 rfl (⟨rfl, rfl⟩)))))))))))
theorem x_lightAs {sh : Sh} {Mr : MR} {L D S : Nat} (hG : GX sh Mr L D) (hS : SA sh Mr S) (hSd : S + 4 ≤ 80) (M : MM) (o : To) (ho : LdX M L o) (x : St) (hx : stX M S o.1.1 x) (hv : plV o.1.1 x) : CtV mX8_lightAs [.ref 0, .ref S] sh Mr M (fun M' => (∀ c, c < 80 ∨ 83 < c → M' c = M c) ∧ LpX M' o.1 (wh o x) (bt x.2.1) ∧ ShX M' o.1.1 (shn o.1 (pl x))) := by
  have hL := GL hG
  have h6 := ho.1.2.1
  refine ct_of (mi := mX8_lightAs) (ls := [some (.ref 0), some (.ref S)]) rfl rfl (Nat.le_of_ble_eq_true rfl) rfl ?_
  refine (ex_al0 dX8_lightAs_0 (ex_getR dX8_lightAs_1 flX8_65 (gx0 hG) (gr0_9 hG) (ex_al0 dX8_lightAs_4 (ex_getR dX8_lightAs_5 flX8_26 (gx0 hG) (gr0_2 hG) (ex_al1 dX8_lightAs_8 (ex_VV2 dX8_lightAs_9 lkX8_249 (gx80 hG) ⟨_, _, rfl⟩ ⟨(Nat.le_of_ble_eq_true rfl), (Nat.le_of_ble_eq_true rfl)⟩ ⟨Nat.le_refl _, Nat.le_refl _⟩ (Nat.le_of_ble_eq_true rfl) (x_turn hG hS (by omega) M o ho x hx hv) (fun M9 h9 => ?_)))))))
  obtain ⟨f1, f2⟩ := h9
  have ho1 : LdX M9 L o := ho.of (fun c e1 e2 => f1 c (by omega))
  have hx1 : stX M9 S o.1.1 x := hx.of (fun c e1 e2 => f1 c (by omega))
  refine (ex_al0 dX8_lightAs_12 (ex_getR dX8_lightAs_13 flX8_65 (gx0 hG) (gr0_9 hG) (ex_al0 dX8_lightAs_16 (ex_getR dX8_lightAs_17 flX8_26 (gx0 hG) (gr0_2 hG) (ex_al1 dX8_lightAs_20 (ex_al0 dX8_lightAs_21 (ex_getR dX8_lightAs_22 flX8_26 (gx0 hG) (gr0_2 hG) (ex_VP1 dX8_lightAs_25 lkX8_219 (sa_sh hS) ⟨_, _, rfl⟩ ⟨(Nat.le_of_ble_eq_true rfl), (Nat.le_of_ble_eq_true rfl)⟩ ⟨Nat.le_refl _, Nat.le_refl _⟩ (Nat.le_of_ble_eq_true rfl) (x_paying hS (laL hG) M9 o ho1 x hx1) (ex_al1 dX8_lightAs_28 (ex_getI dX8_lightAs_29 flX8_151 (sa_sh hS) (ex_top (hx1.2.1) (ex_VV3 dX8_lightAs_32 lkX8_236 (gx80 hG) ⟨_, _, rfl⟩ ⟨(Nat.le_of_ble_eq_true rfl), (Nat.le_of_ble_eq_true rfl)⟩ ⟨Nat.le_refl _, Nat.le_refl _⟩ (Nat.le_of_ble_eq_true rfl) (x_show hG M9 o ho1 (shn o.1 (pl x)) f2 (lit o x) _ _ (fun i hi => by rw [bt_bset _ _ (by omega) i (by omega)]; simp [hi])) (fun M32 h32 => ?_)))))))))))))
  obtain ⟨g1, g2⟩ := h32
  refine (ex_rv dX8_lightAs_35 rfl ?_)
  exact ⟨fun c hc => (g1 c (by omega) (by omega) (by omega)).trans (f1 c (by omega)), g2, fun i hi s hs => by rw [g1 81 (by omega) (by omega) (by omega)]; exact f2 i hi s hs⟩
def LtX (M M' : MM) (g : Sg) : Prop := (∀ c, c < 80 ∨ 83 < c → M' c = M c) ∧ LpX M' g.1.1 (wh g.1 g.2.1) (bt g.2.1.2.1) ∧ ShX M' g.1.1.1 (shn g.1.1 (pl g.2.1))
theorem LtX.R {M M' : MM} {L : Nat} {g : Sg} (h : LtX M M' g) (hL : L ≤ 15) (hg : RX M L g) : RX M' L g := hg.of (fun c hc => h.1 c (by omega))
theorem LtX.C {M M' : MM} {g : Sg} (h : LtX M M' g) : CoX M' (cl0 g.1 g.2.1) := h.2.1.2.2
theorem LtX.u {M M' : MM} {g : Sg} (h : LtX M M' g) : ∀ c, 94 ≤ c → M' c = M c := fun c hc => h.1 c (by omega)
theorem x_now {sh : Sh} {Mr : MR} {L D : Nat} (hG : GX sh Mr L D) (M : MM) (g : Sg) (hg : RX M L g) (hv : sgV g) : CtV mX8_lightAsNow [.ref 0] sh Mr M (fun M' => LtX M M' g) := by
  refine ct_of (mi := mX8_lightAsNow) (ls := [some (.ref 0)]) rfl rfl (Nat.le_of_ble_eq_true rfl) rfl ?_
  refine (ex_al0 dX8_lightAsNow_0 (ex_al0 dX8_lightAsNow_1 (ex_getR dX8_lightAsNow_2 flX8_36 (gx0 hG) (gr0_4 hG) (ex_VV1 dX8_lightAsNow_5 lkX8_272 (gx0 hG) ⟨_, _, rfl⟩ ⟨(Nat.le_of_ble_eq_true rfl), (Nat.le_of_ble_eq_true rfl)⟩ ⟨Nat.le_refl _, Nat.le_refl _⟩ (Nat.le_of_ble_eq_true rfl) (x_lightAs hG (sa25 hG) (by omega) M g.1 hg.1 g.2.1 hg.2.1 (plV_of hv.2.1)) (fun M5 h5 => ?_)))))
  refine (ex_rv dX8_lightAsNow_8 rfl (h5))
theorem s_write {sh : Sh} {Mr : MR} {L D : Nat} (hG : GX sh Mr L D) (M : MM) (g : Sg) (hg : RX M L g) (hv : sgV g) (l : Int32) : CtI mX8_write [.ref 0, .int l] sh Mr M (PX L M (d_write g l)) := by
  have hL := GL hG
  refine ct_of (mi := mX8_write) (ls := [some (.ref 0), some (.int l)]) rfl rfl (Nat.le_of_ble_eq_true rfl) rfl ?_
  refine (ex_il1 dX8_write_0 (ex_bipush (v := nI 32) dX8_write_1 rfl (ex_bipush (v := nI 126) dX8_write_3 rfl (ex_SP3 dX8_write_5 lkX8_103 ⟨(Nat.le_of_ble_eq_true rfl), (Nat.le_of_ble_eq_true rfl)⟩ ⟨Nat.le_refl _, Nat.le_refl _⟩ (Nat.le_of_ble_eq_true rfl) (x_within _ _ _ _ _ _) (ex_ifB_ne (tgt := 13) dX8_write_8 rfl (fun c8 => ?_) (fun c8 => ?_))))))
  · refine (ex_al0 dX8_write_13 (ex_getR dX8_write_14 flX8_10 (gx0 hG) (gr0_0 hG) (ex_il1 dX8_write_17 (ex_VI1 dX8_write_18 lkX8_88 (gx1 hG) ⟨_, _, rfl⟩ ⟨(Nat.le_of_ble_eq_true rfl), (Nat.le_of_ble_eq_true rfl)⟩ ⟨Nat.le_refl _, Nat.le_refl _⟩ (Nat.le_of_ble_eq_true rfl) (x_append hG M _ hg.2.2.2.2.2 l) (fun v18 M18 h18 => ?_)))))
    obtain ⟨rfl, f1, f2⟩ := h18
    have hR : ∀ tx, TxX M18 tx → RX M18 L (g.1, g.2.1, g.2.2.1, g.2.2.2.1, g.2.2.2.2.1, tx) := fun tx h => by
      obtain ⟨h1, h2, h3, h4, h5, h6⟩ := hg
      exact ⟨h1.of (fun c e1 e2 => f1 c (by omega) (by omega)), h2.of (fun c e1 e2 => f1 c (by omega) (by omega)), h3.of (fun c e1 e2 => f1 c (by omega) (by omega)), h4.of (fun c e1 e2 => f1 c (by omega) (by omega)), h5.of (fun c e1 e2 => f1 c (by omega) (by omega)), h⟩
    refine (ex_ifB_eq (tgt := 34) dX8_write_21 rfl (fun c21 => ?_) (fun c21 => ?_))
    · have e : g.2.2.2.2.2.1 = 200 := by simpa using c21
      rw [if_pos e] at f2
      refine (ex_bipush (v := (-3)) dX8_write_34 rfl (ex_ri dX8_write_36 rfl rfl (⟨by simp [d_write, c8, e], by simp only [d_write, c8, e, if_true]; exact hR _ f2, fun c hc => f1 c (by omega) (by omega)⟩)))
    · have e : ¬ g.2.2.2.2.2.1 = 200 := by simpa using c21
      rw [if_neg e] at f2
      refine (ex_al0 dX8_write_24 (ex_getR dX8_write_25 flX8_10 (gx0 hG) (gr0_0 hG) (ex_getI dX8_write_28 flX8_96 (gx1 hG) (ex_top (f2.1) (ex_goto (tgt := 36) dX8_write_31 rfl (ex_ri dX8_write_36 rfl rfl (⟨by simp [d_write, c8, e], by simp only [d_write, c8, e, if_true, if_false]; exact hR _ f2, fun c hc => f1 c (by omega) (by omega)⟩)))))))
  · refine (ex_iconst (v := (-1)) dX8_write_11 rfl (ex_ri dX8_write_12 rfl rfl (⟨by simp [d_write, c8], by simp only [d_write, c8]; exact hg, fun _ _ => rfl⟩)))
theorem s_wipe {sh : Sh} {Mr : MR} {L D : Nat} (hG : GX sh Mr L D) (M : MM) (g : Sg) (hg : RX M L g) : CtI mX8_wipe [.ref 0] sh Mr M (PX L M (d_wipe g)) := by
  have hL := GL hG
  refine ct_of (mi := mX8_wipe) (ls := [some (.ref 0), none]) rfl rfl (Nat.le_of_ble_eq_true rfl) rfl ?_
  refine (ex_al0 dX8_wipe_0 (ex_getR dX8_wipe_1 flX8_10 (gx0 hG) (gr0_0 hG) (ex_getI dX8_wipe_4 flX8_96 (gx1 hG) (ex_top (hg.2.2.2.2.2.1) (ex_is1 dX8_wipe_7 (Nat.le_of_ble_eq_true rfl) rfl (ex_al0 dX8_wipe_8 (ex_getR dX8_wipe_9 flX8_10 (gx0 hG) (gr0_0 hG) (ex_iconst (v := nI 0) dX8_wipe_12 rfl (ex_putI dX8_wipe_13 (fpX8_96 _) (gx1 hG) (ex_il1 dX8_wipe_16 (ex_ri dX8_wipe_17 rfl rfl ?_)))))))))))
  obtain ⟨h1, h2, h3, h4, h5, h6⟩ := hg
  exact ⟨rfl, ⟨h1.of (fun c e1 e2 => wr_oc (by omega)), h2.of (fun c e1 e2 => wr_oc (by omega)), h3.of (fun c e1 e2 => wr_oc (by omega)), h4.of (fun c e1 e2 => wr_oc (by omega)), h5.of (fun c e1 e2 => wr_oc (by omega)), wr_s, Nat.zero_le _, fun k hk => absurd hk (Nat.not_lt_zero k)⟩, fun c hc => wr_oc (by omega)⟩
theorem s_fault {sh : Sh} {Mr : MR} {L D : Nat} (hG : GX sh Mr L D) (M : MM) (g : Sg) (hg : RX M L g) : CtI mX8_fault [.ref 0] sh Mr M (PX L M (d_fault g)) := by
  have hL := GL hG
  have hD := GD hG
  refine ct_of (mi := mX8_fault) (ls := [some (.ref 0)]) rfl rfl (Nat.le_of_ble_eq_true rfl) rfl ?_
  refine (ex_al0 dX8_fault_0 (ex_getR dX8_fault_1 flX8_19 (gx0 hG) (gr0_1 hG) (ex_al0 dX8_fault_4 (ex_getR dX8_fault_5 flX8_10 (gx0 hG) (gr0_0 hG) (ex_al0 dX8_fault_8 (ex_getR dX8_fault_9 flX8_30 (gx0 hG) (gr0_3 hG) (ex_VI2 dX8_fault_12 lkX8_92 (gx3 hG) ⟨_, _, rfl⟩ ⟨(Nat.le_of_ble_eq_true rfl), (Nat.le_of_ble_eq_true rfl)⟩ ⟨Nat.le_refl _, Nat.le_refl _⟩ (Nat.le_of_ble_eq_true rfl) (x_readAll hG (laD hG) (by omega) M _ hg.2.2.2.2.2) (fun v12 M12 h12 => ?_))))))))
  obtain ⟨f1, f2, f3⟩ := h12
  refine (ex_ri dX8_fault_15 rfl rfl (⟨f2, hg.of (fun c hc => f1 c (by omega) (by omega)), fun c hc => f1 c (by omega) (by omega)⟩))
theorem s_ship {sh : Sh} {Mr : MR} {L D : Nat} (hG : GX sh Mr L D) (M : MM) (g : Sg) (hg : RX M L g) (hv : sgV g) (k w : Int32) : CtI mX8_ship [.ref 0, .int k, .int w] sh Mr M (PX L M (d_ship g k w)) := by
  have h5 := hv.1.2.1.1
  refine ct_of (mi := mX8_ship) (ls := [some (.ref 0), some (.int k), some (.int w)]) rfl rfl (Nat.le_of_ble_eq_true rfl) rfl ?_
  refine (ex_al0 dX8_ship_0 (ex_il1 dX8_ship_1 (ex_VP1 dX8_ship_2 lkX8_139 (gx0 hG) ⟨_, _, rfl⟩ ⟨(Nat.le_of_ble_eq_true rfl), (Nat.le_of_ble_eq_true rfl)⟩ ⟨Nat.le_refl _, Nat.le_refl _⟩ (Nat.le_of_ble_eq_true rfl) (x_isS hG M g hg k) (ex_ifB_eq (tgt := 17) dX8_ship_5 rfl (fun c5 => ?_) (fun c5 => ?_)))))
  · refine (ex_iconst (v := (-1)) dX8_ship_17 rfl (ex_ri dX8_ship_18 rfl rfl (⟨by simp [d_ship, c5], hg, fun _ _ => rfl⟩)))
  · refine (ex_il2 dX8_ship_8 (ex_iconst (v := nI 0) dX8_ship_9 rfl (ex_iconst (v := nI 1) dX8_ship_10 rfl (ex_SP3 dX8_ship_11 lkX8_103 ⟨(Nat.le_of_ble_eq_true rfl), (Nat.le_of_ble_eq_true rfl)⟩ ⟨Nat.le_refl _, Nat.le_refl _⟩ (Nat.le_of_ble_eq_true rfl) (x_within _ _ _ _ _ _) (ex_ifB_ne (tgt := 19) dX8_ship_14 rfl (fun c14 => ?_) (fun c14 => ?_))))))
    · obtain ⟨j, hj, rfl⟩ := isS_nat hv c5
      obtain ⟨e1, e2, -⟩ := hg.1.2.1.2.2 j hj
      rcases w01 c14 with rfl | rfl
      · refine (ex_il2 dX8_ship_19 (ex_if_neN (tgt := 35) dX8_ship_20 rfl (by omega) (fun c20 => (absurd rfl c20)) (fun c20 => (ex_al0 dX8_ship_23 (ex_getR dX8_ship_24 flX8_26 (gx0 hG) (gr0_2 hG) (ex_getR dX8_ship_27 flX8_142 (la_sh (laL hG)) (la_r7 (laL hG)) (ex_il1 dX8_ship_30 (ex_ildN dX8_ship_31 (la_a7 (laL hG)) (by omega) (by omega) (ex_top (e1) (ex_goto (tgt := 44) dX8_ship_32 rfl (ex_ri dX8_ship_44 rfl rfl (⟨by simp [d_ship, c5, c14, cN_nI (show j < 2 ^ 31 by omega)], hg, fun _ _ => rfl⟩))))))))))))
      · refine (ex_il2 dX8_ship_19 (ex_if_neN (tgt := 35) dX8_ship_20 rfl (by omega) (fun c20 => (ex_al0 dX8_ship_35 (ex_getR dX8_ship_36 flX8_26 (gx0 hG) (gr0_2 hG) (ex_getR dX8_ship_39 flX8_145 (la_sh (laL hG)) (la_r8 (laL hG)) (ex_il1 dX8_ship_42 (ex_ildN dX8_ship_43 (la_a8 (laL hG)) (by omega) (by omega) (ex_top (e2) (ex_ri dX8_ship_44 rfl rfl (⟨by simp [d_ship, c5, c14, cN_nI (show j < 2 ^ 31 by omega), show ¬ nI 1 = nI 0 by decide], hg, fun _ _ => rfl⟩))))))))) (fun c20 => (absurd c20 (by omega)))))
    · refine (ex_iconst (v := (-1)) dX8_ship_17 rfl (ex_ri dX8_ship_18 rfl rfl (⟨by simp [d_ship, c14], hg, fun _ _ => rfl⟩)))
theorem s_stripe {sh : Sh} {Mr : MR} {L D : Nat} (hG : GX sh Mr L D) (M : MM) (g : Sg) (hg : RX M L g) (hv : sgV g) (s w : Int32) : CtI mX8_stripe [.ref 0, .int s, .int w] sh Mr M (PX L M (d_stripe g s w)) := by
  have hL := GL hG
  have h6 := hv.1.1.1
  refine ct_of (mi := mX8_stripe) (ls := [some (.ref 0), some (.int s), some (.int w)]) rfl rfl (Nat.le_of_ble_eq_true rfl) rfl ?_
  refine (ex_il1 dX8_stripe_0 (ex_SP1 dX8_stripe_1 lkX8_148 ⟨(Nat.le_of_ble_eq_true rfl), (Nat.le_of_ble_eq_true rfl)⟩ ⟨Nat.le_refl _, Nat.le_refl _⟩ (Nat.le_of_ble_eq_true rfl) (x_isStripe _ _ _ _) (ex_ifB_eq (tgt := 16) dX8_stripe_4 rfl (fun c4 => ?_) (fun c4 => ?_))))
  · refine (ex_iconst (v := (-1)) dX8_stripe_16 rfl (ex_ri dX8_stripe_17 rfl rfl (⟨by simp [d_stripe, c4], hg, fun _ _ => rfl⟩)))
  · refine (ex_il2 dX8_stripe_7 (ex_iconst (v := nI 0) dX8_stripe_8 rfl (ex_iconst (v := nI 2) dX8_stripe_9 rfl (ex_SP3 dX8_stripe_10 lkX8_103 ⟨(Nat.le_of_ble_eq_true rfl), (Nat.le_of_ble_eq_true rfl)⟩ ⟨Nat.le_refl _, Nat.le_refl _⟩ (Nat.le_of_ble_eq_true rfl) (x_within _ _ _ _ _ _) (ex_ifB_ne (tgt := 18) dX8_stripe_13 rfl (fun c13 => ?_) (fun c13 => ?_))))))
    · obtain ⟨s, hs, rfl⟩ := isP_nat c4
      obtain ⟨w, hw, rfl⟩ := inB_nat (by decide) c13
      have hcs : cN (nI s) = s := cN_nI (by omega)
      refine (ex_il2 dX8_stripe_18 (ex_iconst (v := nI 2) dX8_stripe_19 rfl (ex_icmp_neN (tgt := 35) dX8_stripe_20 rfl (by omega) (by omega) (fun c20 => ?_) (fun c20 => ?_))))
      · refine (ex_al0 dX8_stripe_35 (ex_VV0 dX8_stripe_36 lkX8_154 (gx0 hG) ⟨_, _, rfl⟩ ⟨(Nat.le_of_ble_eq_true rfl), (Nat.le_of_ble_eq_true rfl)⟩ ⟨Nat.le_refl _, Nat.le_refl _⟩ (Nat.le_of_ble_eq_true rfl) (x_now hG M g hg hv) (fun M36 h36 => ?_)))
        refine (ex_il2 dX8_stripe_39 (ex_if_neN (tgt := 54) dX8_stripe_40 rfl (by omega) (fun c40 => ?_) (fun c40 => ?_)))
        · have e : w = 1 := by omega
          subst e
          refine (ex_al0 dX8_stripe_54 (ex_getR dX8_stripe_55 flX8_65 (gx0 hG) (gr0_9 hG) (ex_il1 dX8_stripe_58 (ex_VP1 dX8_stripe_59 lkX8_161 (gx80 hG) ⟨_, _, rfl⟩ ⟨(Nat.le_of_ble_eq_true rfl), (Nat.le_of_ble_eq_true rfl)⟩ ⟨Nat.le_refl _, Nat.le_refl _⟩ (Nat.le_of_ble_eq_true rfl) (x_ownerAt hG M36 (wh g.1 g.2.1) h36.2.1.2.1 s hs (fun i hi => by have := who_lt hi; omega)) (ex_ri dX8_stripe_62 rfl rfl (⟨by simp [d_stripe, c4, c13, hcs, show ¬ nI 1 = nI 0 by decide, show ¬ nI 1 = nI 2 by decide], h36.R (by omega) hg, h36.u⟩))))))
        · subst c40
          refine (ex_al0 dX8_stripe_43 (ex_getR dX8_stripe_44 flX8_65 (gx0 hG) (gr0_9 hG) (ex_il1 dX8_stripe_47 (ex_VP1 dX8_stripe_48 lkX8_157 (gx80 hG) ⟨_, _, rfl⟩ ⟨(Nat.le_of_ble_eq_true rfl), (Nat.le_of_ble_eq_true rfl)⟩ ⟨Nat.le_refl _, Nat.le_refl _⟩ (Nat.le_of_ble_eq_true rfl) (x_colourAt hG M36 _ h36.C s hs (cl0_le hv s)) (ex_goto (tgt := 62) dX8_stripe_51 rfl (ex_ri dX8_stripe_62 rfl rfl (⟨by simp [d_stripe, c4, c13, hcs], h36.R (by omega) hg, h36.u⟩)))))))
      · subst c20
        refine (ex_al0 dX8_stripe_23 (ex_getR dX8_stripe_24 flX8_36 (gx0 hG) (gr0_4 hG) (ex_getI dX8_stripe_27 flX8_151 (sa_sh (sa25 hG)) (ex_top (hg.2.1.2.1) (ex_il1 dX8_stripe_30 (ex_ishr dX8_stripe_31 (ex_iconst (v := nI 1) dX8_stripe_32 rfl (ex_iand dX8_stripe_33 (ex_top (bit1 _ (by omega)) (ex_ri dX8_stripe_34 rfl rfl (⟨by simp [d_stripe, c4, c13, hcs, show ¬ nI 2 = nI 0 by decide], hg, fun _ _ => rfl⟩)))))))))))
    · refine (ex_iconst (v := (-1)) dX8_stripe_16 rfl (ex_ri dX8_stripe_17 rfl rfl (⟨by simp [d_stripe, c13], hg, fun _ _ => rfl⟩)))
theorem s_seen {sh : Sh} {Mr : MR} {L D : Nat} (hG : GX sh Mr L D) (M : MM) (g : Sg) (hg : RX M L g) (hv : sgV g) (s f : Int32) : CtI mX8_seen [.ref 0, .int s, .int f] sh Mr M (PX L M (d_seen g s f)) := by
  have hL := GL hG
  refine ct_of (mi := mX8_seen) (ls := [some (.ref 0), some (.int s), some (.int f)]) rfl rfl (Nat.le_of_ble_eq_true rfl) rfl ?_
  refine (ex_il1 dX8_seen_0 (ex_SP1 dX8_seen_1 lkX8_148 ⟨(Nat.le_of_ble_eq_true rfl), (Nat.le_of_ble_eq_true rfl)⟩ ⟨Nat.le_refl _, Nat.le_refl _⟩ (Nat.le_of_ble_eq_true rfl) (x_isStripe _ _ _ _) (ex_ifB_eq (tgt := 14) dX8_seen_4 rfl (fun c4 => ?_) (fun c4 => ?_))))
  · refine (ex_iconst (v := (-1)) dX8_seen_14 rfl (ex_ri dX8_seen_15 rfl rfl (⟨by simp [d_seen, c4], hg, fun _ _ => rfl⟩)))
  · refine (ex_il2 dX8_seen_7 (ex_SP1 dX8_seen_8 lkX8_189 ⟨(Nat.le_of_ble_eq_true rfl), (Nat.le_of_ble_eq_true rfl)⟩ ⟨Nat.le_refl _, Nat.le_refl _⟩ (Nat.le_of_ble_eq_true rfl) (x_isFog _ _ _ _) (ex_ifB_ne (tgt := 16) dX8_seen_11 rfl (fun c11 => ?_) (fun c11 => ?_))))
    · obtain ⟨s, hs, rfl⟩ := isP_nat c4
      obtain ⟨f, hf, rfl⟩ := isF_nat c11
      have hcl := cl0_le hv s
      refine (ex_al0 dX8_seen_16 (ex_VV0 dX8_seen_17 lkX8_154 (gx0 hG) ⟨_, _, rfl⟩ ⟨(Nat.le_of_ble_eq_true rfl), (Nat.le_of_ble_eq_true rfl)⟩ ⟨Nat.le_refl _, Nat.le_refl _⟩ (Nat.le_of_ble_eq_true rfl) (x_now hG M g hg hv) (fun M17 h17 => ?_)))
      refine (ex_al0 dX8_seen_20 (ex_getR dX8_seen_21 flX8_65 (gx0 hG) (gr0_9 hG) (ex_il1 dX8_seen_24 (ex_VP1 dX8_seen_25 lkX8_157 (gx80 hG) ⟨_, _, rfl⟩ ⟨(Nat.le_of_ble_eq_true rfl), (Nat.le_of_ble_eq_true rfl)⟩ ⟨Nat.le_refl _, Nat.le_refl _⟩ (Nat.le_of_ble_eq_true rfl) (x_colourAt hG M17 _ h17.C s hs hcl) (ex_il2 dX8_seen_28 (ex_SP1 dX8_seen_29 lkX8_192 ⟨(Nat.le_of_ble_eq_true rfl), (Nat.le_of_ble_eq_true rfl)⟩ ⟨Nat.le_refl _, Nat.le_refl _⟩ (Nat.le_of_ble_eq_true rfl) (x_colSeen f hf _ _ _) (ex_icmp_geN (tgt := 39) dX8_seen_32 rfl (by omega) (by omega) (fun c32 => ?_) (fun c32 => ?_))))))))
      · refine (ex_iconst (v := nI 0) dX8_seen_39 rfl (ex_ri dX8_seen_40 rfl rfl (⟨by simp only [d_seen, c4, c11, Bool.and_self, if_true, cN_nI (show s < 2 ^ 31 by omega), cN_nI (show f < 2 ^ 31 by omega)]; rw [decide_eq_false (by omega)]; rfl, h17.R (by omega) hg, h17.u⟩)))
      · refine (ex_iconst (v := nI 1) dX8_seen_35 rfl (ex_goto (tgt := 40) dX8_seen_36 rfl (ex_ri dX8_seen_40 rfl rfl (⟨by simp only [d_seen, c4, c11, Bool.and_self, if_true, cN_nI (show s < 2 ^ 31 by omega), cN_nI (show f < 2 ^ 31 by omega)]; rw [decide_eq_true (by omega)]; rfl, h17.R (by omega) hg, h17.u⟩))))
    · refine (ex_iconst (v := (-1)) dX8_seen_14 rfl (ex_ri dX8_seen_15 rfl rfl (⟨by simp [d_seen, c11], hg, fun _ _ => rfl⟩)))
theorem s_sign {sh : Sh} {Mr : MR} {L D : Nat} (hG : GX sh Mr L D) (M : MM) (g : Sg) (hg : RX M L g) (hv : sgV g) (k f : Int32) : CtI mX8_sign [.ref 0, .int k, .int f] sh Mr M (PX L M (d_sign g k f)) := by
  have hL := GL hG
  have h5 := hv.1.2.1.1
  refine ct_of (mi := mX8_sign) (ls := [some (.ref 0), some (.int k), some (.int f)]) rfl rfl (Nat.le_of_ble_eq_true rfl) rfl ?_
  refine (ex_al0 dX8_sign_0 (ex_il1 dX8_sign_1 (ex_VP1 dX8_sign_2 lkX8_139 (gx0 hG) ⟨_, _, rfl⟩ ⟨(Nat.le_of_ble_eq_true rfl), (Nat.le_of_ble_eq_true rfl)⟩ ⟨Nat.le_refl _, Nat.le_refl _⟩ (Nat.le_of_ble_eq_true rfl) (x_isS hG M g hg k) (ex_ifB_eq (tgt := 15) dX8_sign_5 rfl (fun c5 => ?_) (fun c5 => ?_)))))
  · refine (ex_iconst (v := (-1)) dX8_sign_15 rfl (ex_ri dX8_sign_16 rfl rfl (⟨by simp [d_sign, c5], hg, fun _ _ => rfl⟩)))
  · refine (ex_il2 dX8_sign_8 (ex_SP1 dX8_sign_9 lkX8_189 ⟨(Nat.le_of_ble_eq_true rfl), (Nat.le_of_ble_eq_true rfl)⟩ ⟨Nat.le_refl _, Nat.le_refl _⟩ (Nat.le_of_ble_eq_true rfl) (x_isFog _ _ _ _) (ex_ifB_ne (tgt := 17) dX8_sign_12 rfl (fun c12 => ?_) (fun c12 => ?_))))
    · obtain ⟨k, hk, rfl⟩ := isS_nat hv c5
      obtain ⟨f, hf, rfl⟩ := isF_nat c12
      refine (ex_al0 dX8_sign_17 (ex_VV0 dX8_sign_18 lkX8_154 (gx0 hG) ⟨_, _, rfl⟩ ⟨(Nat.le_of_ble_eq_true rfl), (Nat.le_of_ble_eq_true rfl)⟩ ⟨Nat.le_refl _, Nat.le_refl _⟩ (Nat.le_of_ble_eq_true rfl) (x_now hG M g hg hv) (fun M18 h18 => ?_)))
      have hg1 := h18.R (by omega) hg
      refine (ex_al0 dX8_sign_21 (ex_getR dX8_sign_22 flX8_65 (gx0 hG) (gr0_9 hG) (ex_al0 dX8_sign_25 (ex_getR dX8_sign_26 flX8_26 (gx0 hG) (gr0_2 hG) (ex_getR dX8_sign_29 flX8_195 (la_sh (laL hG)) (la_r9 (laL hG)) (ex_il1 dX8_sign_32 (ex_ildN dX8_sign_33 (la_a9 (laL hG)) (by omega) (by omega) (ex_il2 dX8_sign_34 (ex_VP2 dX8_sign_35 lkX8_198 (gx80 hG) ⟨_, _, rfl⟩ ⟨(Nat.le_of_ble_eq_true rfl), (Nat.le_of_ble_eq_true rfl)⟩ ⟨Nat.le_refl _, Nat.le_refl _⟩ (Nat.le_of_ble_eq_true rfl) (x_firstSign hG M18 _ h18.C _ (seb (g.1.2.1.2.1 k) (g.1.2.1.2.2 k)) (hg1.1.2.1.2.2 k hk).2.2 f hf) (ex_ri dX8_sign_38 rfl rfl (⟨by simp [d_sign, c5, c12, cN_nI (show k < 2 ^ 31 by omega), cN_nI (show f < 2 ^ 31 by omega)], hg1, h18.u⟩)))))))))))
    · refine (ex_iconst (v := (-1)) dX8_sign_15 rfl (ex_ri dX8_sign_16 rfl rfl (⟨by simp [d_sign, c12], hg, fun _ _ => rfl⟩)))
theorem s_fleet {sh : Sh} {Mr : MR} {L D : Nat} (hG : GX sh Mr L D) (M : MM) (g : Sg) (hg : RX M L g) (hv : sgV g) (f : Int32) : CtI mX8_fleet [.ref 0, .int f] sh Mr M (PX L M (d_fleet g f)) := by
  have hL := GL hG
  have h5 := hv.1.2.1.1
  refine ct_of (mi := mX8_fleet) (ls := [some (.ref 0), some (.int f)]) rfl rfl (Nat.le_of_ble_eq_true rfl) rfl ?_
  refine (ex_il1 dX8_fleet_0 (ex_iconst (v := (-1)) dX8_fleet_1 rfl (ex_icmp_eq (tgt := 14) dX8_fleet_2 rfl (fun c2 => ?_) (fun c2 => ?_))))
  · subst c2
    refine (ex_al0 dX8_fleet_14 (ex_VV0 dX8_fleet_15 lkX8_154 (gx0 hG) ⟨_, _, rfl⟩ ⟨(Nat.le_of_ble_eq_true rfl), (Nat.le_of_ble_eq_true rfl)⟩ ⟨Nat.le_refl _, Nat.le_refl _⟩ (Nat.le_of_ble_eq_true rfl) (x_now hG M g hg hv) (fun M15 h15 => ?_)))
    have hg1 := h15.R (by omega) hg
    refine (ex_il1 dX8_fleet_18 (ex_iconst (v := (-1)) dX8_fleet_19 rfl (ex_icmp_ne (tgt := 37) dX8_fleet_20 rfl (fun c20 => (absurd rfl c20)) (fun c20 => (ex_al0 dX8_fleet_23 (ex_getR dX8_fleet_24 flX8_65 (gx0 hG) (gr0_9 hG) (ex_al0 dX8_fleet_27 (ex_getR dX8_fleet_28 flX8_26 (gx0 hG) (gr0_2 hG) (ex_VP1 dX8_fleet_31 lkX8_201 (gx80 hG) ⟨_, _, rfl⟩ ⟨(Nat.le_of_ble_eq_true rfl), (Nat.le_of_ble_eq_true rfl)⟩ ⟨Nat.le_refl _, Nat.le_refl _⟩ (Nat.le_of_ble_eq_true rfl) (x_sureAny hG M15 g.1 hg1.1 _ h15.C) (ex_goto (tgt := 49) dX8_fleet_34 rfl (ex_ri dX8_fleet_49 rfl rfl (⟨by simp [d_fleet], hg1, h15.u⟩))))))))))))
  · refine (ex_il1 dX8_fleet_5 (ex_SP1 dX8_fleet_6 lkX8_189 ⟨(Nat.le_of_ble_eq_true rfl), (Nat.le_of_ble_eq_true rfl)⟩ ⟨Nat.le_refl _, Nat.le_refl _⟩ (Nat.le_of_ble_eq_true rfl) (x_isFog _ _ _ _) (ex_ifB_ne (tgt := 14) dX8_fleet_9 rfl (fun c9 => ?_) (fun c9 => ?_))))
    · obtain ⟨j, hj, rfl⟩ := isF_nat c9
      refine (ex_al0 dX8_fleet_14 (ex_VV0 dX8_fleet_15 lkX8_154 (gx0 hG) ⟨_, _, rfl⟩ ⟨(Nat.le_of_ble_eq_true rfl), (Nat.le_of_ble_eq_true rfl)⟩ ⟨Nat.le_refl _, Nat.le_refl _⟩ (Nat.le_of_ble_eq_true rfl) (x_now hG M g hg hv) (fun M15 h15 => ?_)))
      have hg1 := h15.R (by omega) hg
      refine (ex_il1 dX8_fleet_18 (ex_iconst (v := (-1)) dX8_fleet_19 rfl (ex_icmp_ne (tgt := 37) dX8_fleet_20 rfl (fun c20 => (ex_al0 dX8_fleet_37 (ex_getR dX8_fleet_38 flX8_65 (gx0 hG) (gr0_9 hG) (ex_al0 dX8_fleet_41 (ex_getR dX8_fleet_42 flX8_26 (gx0 hG) (gr0_2 hG) (ex_il1 dX8_fleet_45 (ex_VP2 dX8_fleet_46 lkX8_205 (gx80 hG) ⟨_, _, rfl⟩ ⟨(Nat.le_of_ble_eq_true rfl), (Nat.le_of_ble_eq_true rfl)⟩ ⟨Nat.le_refl _, Nat.le_refl _⟩ (Nat.le_of_ble_eq_true rfl) (x_sureShips hG M15 g.1 hg1.1 _ h15.C j hj) (ex_ri dX8_fleet_49 rfl rfl (⟨by simp [d_fleet, c2, c9, cN_nI (show j < 2 ^ 31 by omega)], hg1, h15.u⟩))))))))) (fun c20 => (absurd c20 c2)))))
    · refine (ex_iconst (v := (-1)) dX8_fleet_12 rfl (ex_ri dX8_fleet_13 rfl rfl (⟨by simp [d_fleet, c2, c9], hg, fun _ _ => rfl⟩)))
