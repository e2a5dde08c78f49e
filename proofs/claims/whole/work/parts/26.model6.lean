/-! the reference's calls: reads -/
theorem asIs_oc {B n c : Nat} {M : MM} (h1 : c ≠ B + 14) (h2 : c ≠ B) : asIs B n M c = M c := by
  unfold asIs; rw [wr_oc h2, putR_oc h1]
theorem asIs_B {B n k : Nat} {M : MM} (h : k ≠ 25) : asIs B n M B k = M B k := by
  unfold asIs; rw [wr_oi h, putR_oc (by omega)]
theorem asIs_out {B n : Nat} {M : MM} : asIs B n M B 25 = bset (fun i => !pay (fun i => M (B + 4) (2 + i)) (M B 5) i) n := by
  unfold asIs; rw [wr_s]
theorem asIs_now {B n j : Nat} {M : MM} (h : j < 20) : asIs B n M (B + 14) j = M (B + 4) j := by
  unfold asIs
  rw [wr_oc (by omega)]
  have h2 := putR_in (M := M) (c := B + 14) (fr := 0) (f := M (B + 4)) (n := 20) (j := j) h
  rw [Nat.zero_add] at h2
  exact h2
theorem asIs_RM {B : Nat} {M : MM} {g : Sg} (hg : RM B M g) : RM B (asIs B g.1.1.1 M) g := hg.of (fun k hk => asIs_B (by omega)) (fun c h1 h2 => asIs_oc (by omega) (by omega))
/-- 'out' says who is not lit -/
theorem asIs_lit {B : Nat} {M : MM} {g : Sg} (hg : RM B M g) {i : Nat} (hi : i < g.1.1.1) : (!bt (asIs B g.1.1.1 M B 25) i) = lit g.1 g.2.1 i := by
  obtain ⟨h1, h2, h3, h4, h5, h6⟩ := hg
  have h6 := h1.2.1
  rw [asIs_out, bt_bset _ _ (by omega) i (by omega)]
  have e := (h5.2.2 i hi).1
  rw [Nat.zero_add] at e
  simp only [hi, decide_true, Bool.true_and, Bool.not_not]
  unfold lit pay
  show decide (M (B + 4) (2 + i) ≤ M B 5) = _
  rw [e, h4]
theorem asIs_Now {B : Nat} {M : MM} {g : Sg} (hg : RM B M g) (hv : sgV g) : NowM B (asIs B g.1.1.1 M) g.1.1.1 (pl g.2.1) := by
  obtain ⟨h1, h2, h3, h4, h5, h6⟩ := hg
  have h6 := h1.2.1
  obtain ⟨v1, v2, v3⟩ := hv.2.1
  refine ⟨by rw [asIs_now (by omega)]; exact h5.1, by show g.2.1.1 < 2 ^ 30; omega, fun i hi => ?_⟩
  rw [asIs_now (by omega), asIs_now (by omega)]
  have e := h5.2.2 i hi
  rw [Nat.zero_add, Nat.zero_add, Nat.zero_add] at e
  exact ⟨e.2.1, (v3 i hi).2.1, e.2.2, (v3 i hi).2.2.2⟩
theorem who_congr {t : Td} {p : Pl} {l1 l2 : Nat → Bool} (h : ∀ i, i < t.1 → l1 i = l2 i) : who t p l1 = who t p l2 := by
  funext s
  exact fst_congr (fun i hi => by rw [h i hi])
theorem cof_congr {t : Td} {p : Pl} {l1 l2 s1 s2 : Nat → Bool} (h : ∀ i, i < t.1 → l1 i = l2 i) (hs : s1 = s2) : cof t p l1 s1 = cof t p l2 s2 := by
  funext s
  unfold cof
  rw [who_congr h, hs]
/-- the heap behind asItIs(); paint() -/
def lgt (B : Nat) (g : Sg) (M : MM) : MM := pnt (asIs B g.1.1.1 M) B (wh g.1 g.2.1) (cl0 g.1 g.2.1) 24
theorem r_paint {sh : Sh} {Mr : MR} {B : Nat} (hB : MD sh Mr B) (M : MM) (g : Sg) (hg : RM B M g) (hv : sgV g) : CtV mX9_paint [.ref B] sh Mr (asIs B g.1.1.1 M) (fun M' => M' = lgt B g M) := by
  have h := m_paint (Mr := Mr) hB (asIs B g.1.1.1 M) g.1.1 (pl g.2.1) (asIs_RM hg).1 (asIs_Now hg hv)
  have e1 : asIs B g.1.1.1 M (B + 14) 1 = g.2.1.2.1 := by rw [asIs_now (by omega)]; exact hg.2.2.2.2.1.2.1
  rw [who_congr (fun i hi => asIs_lit hg hi), cof_congr (fun i hi => asIs_lit hg hi) (congrArg bt e1)] at h
  exact h
theorem r_asItIs {sh : Sh} {Mr : MR} {B : Nat} (hB : MD sh Mr B) (M : MM) (g : Sg) (hg : RM B M g) : CtV mX9_asItIs [.ref B] sh Mr M (fun M' => M' = asIs B g.1.1.1 M) := m_asItIs hB M _ hg.1.1 hg.1.2.1
theorem lgt_oc {B c : Nat} {g : Sg} {M : MM} (h : c < B ∨ (B < c ∧ c ≠ B + 14 ∧ c ≠ B + 15 ∧ c ≠ B + 16)) : lgt B g M c = M c := by
  unfold lgt; rw [pnt_oc (by omega) (by omega), asIs_oc (by omega) (by omega)]
theorem lgt_B {B k : Nat} {g : Sg} {M : MM} (h : k ≠ 25) : lgt B g M B k = M B k := by
  unfold lgt; rw [pnt_oc (by omega) (by omega), asIs_B h]
theorem lgt_RM {B : Nat} {M : MM} {g : Sg} (hg : RM B M g) : RM B (lgt B g M) g := hg.of (fun k hk => lgt_B (by omega)) (fun c h1 h2 => lgt_oc (by omega))
theorem lgt_c {B s : Nat} {g : Sg} {M : MM} (h : s < 24) : lgt B g M (B + 16) s = nI (cl0 g.1 g.2.1 s) := pnt_c h
theorem lgt_w {B s : Nat} {g : Sg} {M : MM} (h : s < 24) : lgt B g M (B + 15) s = wI (wh g.1 g.2.1 s) := pnt_w h
theorem cl0_le {g : Sg} (hv : sgV g) (s : Nat) : cl0 g.1 g.2.1 s ≤ 4 := cof_le (fun i hi => (hv.1.1.2.2 i hi).1) s
theorem wh_lt {o : To} {x : St} {s i : Nat} (h : wh o x s = some i) : i < o.1.1 := who_lt h
theorem isT_nat {g : Sg} (hv : sgV g) {i : Int32} (h : isT g i = true) : ∃ j, j < g.1.1.1 ∧ i = nI j := (inB_lt (by have := hv.1.1.1; omega)).mp h
theorem isS_nat {g : Sg} (hv : sgV g) {i : Int32} (h : isS g i = true) : ∃ j, j < g.1.2.1.1 ∧ i = nI j := (inB_lt (by have := hv.1.2.1.1; omega)).mp h
theorem m_isT {sh : Sh} {Mr : MR} {B : Nat} (hB : MD sh Mr B) (M : MM) (g : Sg) (hg : RM B M g) (v : Int32) : CtP mX9_isTenant [.ref B, .int v] sh Mr M (bI (isT g v)) := by
  have h := m_isTenant (Mr := Mr) hB v M
  rw [hg.1.1] at h
  exact h
theorem m_isS {sh : Sh} {Mr : MR} {B : Nat} (hB : MD sh Mr B) (M : MM) (g : Sg) (hg : RM B M g) (v : Int32) : CtP mX9_isShip [.ref B, .int v] sh Mr M (bI (isS g v)) := by
  have h := m_isShip (Mr := Mr) hB v M
  rw [hg.2.1.1] at h
  exact h
theorem wI_ge {o : Option Nat} (h : ∀ i, o = some i → i < 2 ^ 31) : (0 ≤ wI o) ↔ o ≠ none := by
  rw [← Int32.not_lt]
  exact not_congr (wI_neg h)
theorem r_ship {sh : Sh} {Mr : MR} {B : Nat} (hB : MD sh Mr B) (M : MM) (g : Sg) (hg : RM B M g) (hv : sgV g) (k w : Int32) : CtI mX9_ship [.ref B, .int k, .int w] sh Mr M (PM B M (d_ship g k w)) := by
  have h5 := hv.1.2.1.1
  refine ct_of (mi := mX9_ship) (ls := [some (.ref B), some (.int k), some (.int w)]) rfl rfl (Nat.le_of_ble_eq_true rfl) rfl ?_
  refine (ex_al0 dX9_ship_0 (ex_il1 dX9_ship_1 (ex_VP1 dX9_ship_2 lkX9_193 (md_sh hB) ⟨_, _, rfl⟩ ⟨(Nat.le_of_ble_eq_true rfl), (Nat.le_of_ble_eq_true rfl)⟩ ⟨Nat.le_refl _, Nat.le_refl _⟩ (Nat.le_of_ble_eq_true rfl) (m_isS hB M g hg k) (ex_ifB_eq (tgt := 30) dX9_ship_5 rfl (fun c5 => ?_) (fun c5 => ?_)))))
  · refine (ex_iconst (v := (-1)) dX9_ship_30 rfl (ex_ri dX9_ship_31 rfl rfl (⟨by simp [d_ship, c5], hg, fun _ _ => rfl⟩)))
  · refine (ex_il2 dX9_ship_8 (ex_iconst (v := nI 0) dX9_ship_9 rfl (ex_iconst (v := nI 1) dX9_ship_10 rfl (ex_SP3 dX9_ship_11 lkX9_88 ⟨(Nat.le_of_ble_eq_true rfl), (Nat.le_of_ble_eq_true rfl)⟩ ⟨Nat.le_refl _, Nat.le_refl _⟩ (Nat.le_of_ble_eq_true rfl) (m_in _ _ _ _ _ _) (ex_ifB_eq (tgt := 30) dX9_ship_14 rfl (fun c14 => ?_) (fun c14 => ?_))))))
    · refine (ex_iconst (v := (-1)) dX9_ship_30 rfl (ex_ri dX9_ship_31 rfl rfl (⟨by simp [d_ship, c14], hg, fun _ _ => rfl⟩)))
    · obtain ⟨j, hj, rfl⟩ := isS_nat hv c5
      obtain ⟨e1, e2, e3, e4⟩ := hg.2.1.2.2 j hj
      rcases w01 c14 with rfl | rfl
      · refine (ex_al0 dX9_ship_17 (ex_getR dX9_ship_18 flX9_13 (md_sh hB) (md_r3 hB) (ex_iconst (v := nI 2) dX9_ship_21 rfl (ex_il1 dX9_ship_22 (ex_imulN dX9_ship_23 (ex_il2 dX9_ship_24 (ex_iaddN dX9_ship_25 (ex_ildN dX9_ship_26 (md_a3 hB) (by omega) (by omega) (ex_goto (tgt := 31) dX9_ship_27 rfl (ex_ri dX9_ship_31 rfl rfl (⟨by simp [d_ship, c5, c14, cN_nI (show j < 2 ^ 31 by omega), e1], hg, fun _ _ => rfl⟩)))))))))))
      · refine (ex_al0 dX9_ship_17 (ex_getR dX9_ship_18 flX9_13 (md_sh hB) (md_r3 hB) (ex_iconst (v := nI 2) dX9_ship_21 rfl (ex_il1 dX9_ship_22 (ex_imulN dX9_ship_23 (ex_il2 dX9_ship_24 (ex_iaddN dX9_ship_25 (ex_ildN dX9_ship_26 (md_a3 hB) (by omega) (by omega) (ex_goto (tgt := 31) dX9_ship_27 rfl (ex_ri dX9_ship_31 rfl rfl (⟨by simp [d_ship, c5, c14, cN_nI (show j < 2 ^ 31 by omega), e3, show ¬ nI 1 = nI 0 by decide], hg, fun _ _ => rfl⟩)))))))))))
theorem r_seen {sh : Sh} {Mr : MR} {B : Nat} (hB : MD sh Mr B) (M : MM) (g : Sg) (hg : RM B M g) (hv : sgV g) (s f : Int32) : CtI mX9_seen [.ref B, .int s, .int f] sh Mr M (PM B M (d_seen g s f)) := by
  refine ct_of (mi := mX9_seen) (ls := [some (.ref B), some (.int s), some (.int f)]) rfl rfl (Nat.le_of_ble_eq_true rfl) rfl ?_
  refine (ex_il1 dX9_seen_0 (ex_SP1 dX9_seen_1 lkX9_196 ⟨(Nat.le_of_ble_eq_true rfl), (Nat.le_of_ble_eq_true rfl)⟩ ⟨Nat.le_refl _, Nat.le_refl _⟩ (Nat.le_of_ble_eq_true rfl) (m_isStripe _ _ _ _) (ex_ifB_eq (tgt := 14) dX9_seen_4 rfl (fun c4 => ?_) (fun c4 => ?_))))
  · refine (ex_iconst (v := (-1)) dX9_seen_14 rfl (ex_ri dX9_seen_15 rfl rfl (⟨by simp [d_seen, isP, c4], hg, fun _ _ => rfl⟩)))
  · refine (ex_il2 dX9_seen_7 (ex_SP1 dX9_seen_8 lkX9_209 ⟨(Nat.le_of_ble_eq_true rfl), (Nat.le_of_ble_eq_true rfl)⟩ ⟨Nat.le_refl _, Nat.le_refl _⟩ (Nat.le_of_ble_eq_true rfl) (m_isFog _ _ _ _) (ex_ifB_ne (tgt := 16) dX9_seen_11 rfl (fun c11 => ?_) (fun c11 => ?_))))
    · have hP : isP s = true := c4
      have hF : isF f = true := c11
      obtain ⟨s, hs, rfl⟩ := isP_nat hP
      obtain ⟨f, hf, rfl⟩ := isF_nat hF
      refine (ex_al0 dX9_seen_16 (ex_VV0 dX9_seen_17 lkX9_190 (md_sh hB) ⟨_, _, rfl⟩ ⟨(Nat.le_of_ble_eq_true rfl), (Nat.le_of_ble_eq_true rfl)⟩ ⟨Nat.le_refl _, Nat.le_refl _⟩ (Nat.le_of_ble_eq_true rfl) (r_asItIs hB M g hg) (fun M17 h17 => ?_)))
      subst h17
      refine (ex_al0 dX9_seen_20 (ex_VV0 dX9_seen_21 lkX9_199 (md_sh hB) ⟨_, _, rfl⟩ ⟨(Nat.le_of_ble_eq_true rfl), (Nat.le_of_ble_eq_true rfl)⟩ ⟨Nat.le_refl _, Nat.le_refl _⟩ (Nat.le_of_ble_eq_true rfl) (r_paint hB M g hg hv) (fun M21 h21 => ?_)))
      subst h21
      refine (ex_al0 dX9_seen_24 (ex_getR dX9_seen_25 flX9_55 (md_sh hB) (md_r27 hB) (ex_il1 dX9_seen_28 (ex_ildN dX9_seen_29 (md_a27 hB) (by omega) (by omega) (ex_top (lgt_c hs) (ex_il2 dX9_seen_30 (ex_SP2 dX9_seen_31 lkX9_177 ⟨(Nat.le_of_ble_eq_true rfl), (Nat.le_of_ble_eq_true rfl)⟩ ⟨Nat.le_refl _, Nat.le_refl _⟩ (Nat.le_of_ble_eq_true rfl) (m_isSeen _ f (cl0_le hv s) hf _ _ _) (ex_ifB_eq (tgt := 41) dX9_seen_34 rfl (fun c34 => ?_) (fun c34 => ?_)))))))))
      · refine (ex_iconst (v := nI 0) dX9_seen_41 rfl (ex_ri dX9_seen_42 rfl rfl (⟨by simp only [d_seen, hP, hF, Bool.and_self, if_true, cN_nI (show s < 2 ^ 31 by omega), cN_nI (show f < 2 ^ 31 by omega), c34]; rfl, lgt_RM hg, fun c hc => lgt_oc (Or.inl hc)⟩)))
      · refine (ex_iconst (v := nI 1) dX9_seen_37 rfl (ex_goto (tgt := 42) dX9_seen_38 rfl (ex_ri dX9_seen_42 rfl rfl (⟨by simp only [d_seen, hP, hF, Bool.and_self, if_true, cN_nI (show s < 2 ^ 31 by omega), cN_nI (show f < 2 ^ 31 by omega), c34]; rfl, lgt_RM hg, fun c hc => lgt_oc (Or.inl hc)⟩))))
    · refine (ex_iconst (v := (-1)) dX9_seen_14 rfl (ex_ri dX9_seen_15 rfl rfl (⟨by simp [d_seen, isF, c11], hg, fun _ _ => rfl⟩)))
theorem cl_row {B : Nat} {g : Sg} {M : MM} (hv : sgV g) : ∀ s, s < 24 → lgt B g M (B + 16) s = nI (cl0 g.1 g.2.1 s) ∧ cl0 g.1 g.2.1 s ≤ 4 := fun s hs => ⟨lgt_c hs, cl0_le hv s⟩
theorem r_sign {sh : Sh} {Mr : MR} {B : Nat} (hB : MD sh Mr B) (M : MM) (g : Sg) (hg : RM B M g) (hv : sgV g) (k f : Int32) : CtI mX9_sign [.ref B, .int k, .int f] sh Mr M (PM B M (d_sign g k f)) := by
  have h5 := hv.1.2.1.1
  refine ct_of (mi := mX9_sign) (ls := [some (.ref B), some (.int k), some (.int f), none]) rfl rfl (Nat.le_of_ble_eq_true rfl) rfl ?_
  refine (ex_al0 dX9_sign_0 (ex_il1 dX9_sign_1 (ex_VP1 dX9_sign_2 lkX9_193 (md_sh hB) ⟨_, _, rfl⟩ ⟨(Nat.le_of_ble_eq_true rfl), (Nat.le_of_ble_eq_true rfl)⟩ ⟨Nat.le_refl _, Nat.le_refl _⟩ (Nat.le_of_ble_eq_true rfl) (m_isS hB M g hg k) (ex_ifB_eq (tgt := 15) dX9_sign_5 rfl (fun c5 => ?_) (fun c5 => ?_)))))
  · refine (ex_iconst (v := (-1)) dX9_sign_15 rfl (ex_ri dX9_sign_16 rfl rfl (⟨by simp [d_sign, c5], hg, fun _ _ => rfl⟩)))
  · refine (ex_il2 dX9_sign_8 (ex_SP1 dX9_sign_9 lkX9_209 ⟨(Nat.le_of_ble_eq_true rfl), (Nat.le_of_ble_eq_true rfl)⟩ ⟨Nat.le_refl _, Nat.le_refl _⟩ (Nat.le_of_ble_eq_true rfl) (m_isFog _ _ _ _) (ex_ifB_ne (tgt := 17) dX9_sign_12 rfl (fun c12 => ?_) (fun c12 => ?_))))
    · have hF : isF f = true := c12
      obtain ⟨k, hk, rfl⟩ := isS_nat hv c5
      obtain ⟨f, hf, rfl⟩ := isF_nat hF
      refine (ex_al0 dX9_sign_17 (ex_VV0 dX9_sign_18 lkX9_190 (md_sh hB) ⟨_, _, rfl⟩ ⟨(Nat.le_of_ble_eq_true rfl), (Nat.le_of_ble_eq_true rfl)⟩ ⟨Nat.le_refl _, Nat.le_refl _⟩ (Nat.le_of_ble_eq_true rfl) (r_asItIs hB M g hg) (fun M18 h18 => ?_)))
      subst h18
      refine (ex_al0 dX9_sign_21 (ex_VV0 dX9_sign_22 lkX9_199 (md_sh hB) ⟨_, _, rfl⟩ ⟨(Nat.le_of_ble_eq_true rfl), (Nat.le_of_ble_eq_true rfl)⟩ ⟨Nat.le_refl _, Nat.le_refl _⟩ (Nat.le_of_ble_eq_true rfl) (r_paint hB M g hg hv) (fun M22 h22 => ?_)))
      subst h22
      have hlt : ∀ i, sgn (cl0 g.1 g.2.1) (seb (g.1.2.1.2.1 k) (g.1.2.1.2.2 k)) f = some i → i < 2 ^ 31 := fun i h => by have := sgn_lt h; omega
      refine (ex_al0 dX9_sign_25 (ex_il1 dX9_sign_26 (ex_il2 dX9_sign_27 (ex_VP2 dX9_sign_28 lkX9_180 (md_sh hB) ⟨_, _, rfl⟩ ⟨(Nat.le_of_ble_eq_true rfl), (Nat.le_of_ble_eq_true rfl)⟩ ⟨Nat.le_refl _, Nat.le_refl _⟩ (Nat.le_of_ble_eq_true rfl) (m_signOf hB _ g.1.2.1 (lgt_RM hg).2.1 (cl0 g.1 g.2.1) (cl_row hv) k f hk hf) (ex_is3 dX9_sign_31 (Nat.le_of_ble_eq_true rfl) rfl (ex_il3 dX9_sign_32 (ex_if_ge (tgt := 41) dX9_sign_33 rfl (fun c33 => ?_) (fun c33 => ?_))))))))
      · refine (ex_il3 dX9_sign_41 (ex_ri dX9_sign_42 rfl rfl (⟨by simp only [d_sign, c5, hF, Bool.and_self, if_true, cN_nI (show k < 2 ^ 31 by omega), cN_nI (show f < 2 ^ 31 by omega)]; revert c33; rw [wI_ge hlt]; cases sgn (cl0 g.1 g.2.1) (seb (g.1.2.1.2.1 k) (g.1.2.1.2.2 k)) f; exact fun h => absurd rfl h; exact fun _ => rfl, lgt_RM hg, fun c hc => lgt_oc (Or.inl hc)⟩)))
      · refine (ex_bipush (v := (-4)) dX9_sign_36 rfl (ex_goto (tgt := 42) dX9_sign_38 rfl (ex_ri dX9_sign_42 rfl rfl (⟨by simp only [d_sign, c5, hF, Bool.and_self, if_true, cN_nI (show k < 2 ^ 31 by omega), cN_nI (show f < 2 ^ 31 by omega)]; revert c33; rw [wI_ge hlt]; cases sgn (cl0 g.1 g.2.1) (seb (g.1.2.1.2.1 k) (g.1.2.1.2.2 k)) f; exact fun _ => rfl; exact fun h => absurd (by simp) h, lgt_RM hg, fun c hc => lgt_oc (Or.inl hc)⟩))))
    · refine (ex_iconst (v := (-1)) dX9_sign_15 rfl (ex_ri dX9_sign_16 rfl rfl (⟨by simp [d_sign, isF, c12], hg, fun _ _ => rfl⟩)))
theorem inB_m1 {f : Int32} : inB f (-1) (nI 3) = true ↔ (f = -1 ∨ isF f = true) := by
  unfold isF inB
  simp only [Bool.and_eq_true, decide_eq_true_eq, i_le_iff]
  rw [show ((-1 : Int32)).toInt = -1 by decide, show (nI 3).toInt = 3 by decide, show (nI 0).toInt = 0 by decide]
  constructor
  · intro h
    by_cases e : f.toInt = -1
    · left
      apply Int32.toInt_inj.mp
      rw [e]; decide
    · right; omega
  · rintro (rfl | h)
    · decide
    · omega
theorem r_fleet {sh : Sh} {Mr : MR} {B : Nat} (hB : MD sh Mr B) (M : MM) (g : Sg) (hg : RM B M g) (hv : sgV g) (f : Int32) : CtI mX9_fleet [.ref B, .int f] sh Mr M (PM B M (d_fleet g f)) := by
  have h5 := hv.1.2.1.1
  refine ct_of (mi := mX9_fleet) (ls := [some (.ref B), some (.int f)]) rfl rfl (Nat.le_of_ble_eq_true rfl) rfl ?_
  refine (ex_il1 dX9_fleet_0 (ex_iconst (v := (-1)) dX9_fleet_1 rfl (ex_iconst (v := nI 3) dX9_fleet_2 rfl (ex_SP3 dX9_fleet_3 lkX9_88 ⟨(Nat.le_of_ble_eq_true rfl), (Nat.le_of_ble_eq_true rfl)⟩ ⟨Nat.le_refl _, Nat.le_refl _⟩ (Nat.le_of_ble_eq_true rfl) (m_in _ _ _ _ _ _) (ex_ifB_ne (tgt := 11) dX9_fleet_6 rfl (fun c6 => ?_) (fun c6 => ?_))))))
  · refine (ex_al0 dX9_fleet_11 (ex_VV0 dX9_fleet_12 lkX9_190 (md_sh hB) ⟨_, _, rfl⟩ ⟨(Nat.le_of_ble_eq_true rfl), (Nat.le_of_ble_eq_true rfl)⟩ ⟨Nat.le_refl _, Nat.le_refl _⟩ (Nat.le_of_ble_eq_true rfl) (r_asItIs hB M g hg) (fun M12 h12 => ?_)))
    subst h12
    refine (ex_al0 dX9_fleet_15 (ex_VV0 dX9_fleet_16 lkX9_199 (md_sh hB) ⟨_, _, rfl⟩ ⟨(Nat.le_of_ble_eq_true rfl), (Nat.le_of_ble_eq_true rfl)⟩ ⟨Nat.le_refl _, Nat.le_refl _⟩ (Nat.le_of_ble_eq_true rfl) (r_paint hB M g hg hv) (fun M16 h16 => ?_)))
    subst h16
    rcases inB_m1.mp c6 with rfl | hF
    · refine (ex_il1 dX9_fleet_19 (ex_if_ge (tgt := 30) dX9_fleet_20 rfl (fun c20 => (absurd c20 (by decide))) (fun c20 => (ex_al0 dX9_fleet_23 (ex_VP0 dX9_fleet_24 lkX9_212 (md_sh hB) ⟨_, _, rfl⟩ ⟨(Nat.le_of_ble_eq_true rfl), (Nat.le_of_ble_eq_true rfl)⟩ ⟨Nat.le_refl _, Nat.le_refl _⟩ (Nat.le_of_ble_eq_true rfl) (m_sureInAny hB _ g.1.2.1 (lgt_RM hg).2.1 (cl0 g.1 g.2.1) (cl_row hv)) (ex_goto (tgt := 35) dX9_fleet_27 rfl (ex_ri dX9_fleet_35 rfl rfl (⟨by simp [d_fleet], lgt_RM hg, fun c hc => lgt_oc (Or.inl hc)⟩))))))))
    · obtain ⟨f, hf, rfl⟩ := isF_nat hF
      refine (ex_il1 dX9_fleet_19 (ex_if_ge (tgt := 30) dX9_fleet_20 rfl (fun c20 => (ex_al0 dX9_fleet_30 (ex_il1 dX9_fleet_31 (ex_VP1 dX9_fleet_32 lkX9_184 (md_sh hB) ⟨_, _, rfl⟩ ⟨(Nat.le_of_ble_eq_true rfl), (Nat.le_of_ble_eq_true rfl)⟩ ⟨Nat.le_refl _, Nat.le_refl _⟩ (Nat.le_of_ble_eq_true rfl) (m_sureIn hB _ g.1.2.1 (lgt_RM hg).2.1 (cl0 g.1 g.2.1) (cl_row hv) f hf) (ex_ri dX9_fleet_35 rfl rfl ?_))))) (fun c20 => (absurd (nI_pos' (by omega)) c20))))
      refine ⟨?_, lgt_RM hg, fun c hc => lgt_oc (Or.inl hc)⟩
      have hne : ¬ nI f = -1 := by
        intro e
        have h1 := congrArg Int32.toInt e
        rw [nI_toInt (by omega)] at h1
        rw [show ((-1 : Int32)).toInt = -1 by decide] at h1
        omega
      simp [d_fleet, hne, hF, cN_nI (show f < 2 ^ 31 by omega)]
  · refine (ex_iconst (v := (-1)) dX9_fleet_9 rfl (ex_ri dX9_fleet_10 rfl rfl ?_))
    refine ⟨?_, hg, fun _ _ => rfl⟩
    have h1 : ¬ f = -1 := fun e => by rw [inB_m1.mpr (Or.inl e)] at c6; cases c6
    have h2 : isF f = false := by
      cases h : isF f
      · rfl
      · rw [inB_m1.mpr (Or.inr h)] at c6; cases c6
    simp [d_fleet, h1, h2]
theorem r_stripe {sh : Sh} {Mr : MR} {B : Nat} (hB : MD sh Mr B) (M : MM) (g : Sg) (hg : RM B M g) (hv : sgV g) (s w : Int32) : CtI mX9_stripe [.ref B, .int s, .int w] sh Mr M (PM B M (d_stripe g s w)) := by
  have h6 := hv.1.1.1
  refine ct_of (mi := mX9_stripe) (ls := [some (.ref B), some (.int s), some (.int w)]) rfl rfl (Nat.le_of_ble_eq_true rfl) rfl ?_
  refine (ex_il1 dX9_stripe_0 (ex_SP1 dX9_stripe_1 lkX9_196 ⟨(Nat.le_of_ble_eq_true rfl), (Nat.le_of_ble_eq_true rfl)⟩ ⟨Nat.le_refl _, Nat.le_refl _⟩ (Nat.le_of_ble_eq_true rfl) (m_isStripe _ _ _ _) (ex_ifB_eq (tgt := 16) dX9_stripe_4 rfl (fun c4 => ?_) (fun c4 => ?_))))
  · refine (ex_iconst (v := (-1)) dX9_stripe_16 rfl (ex_ri dX9_stripe_17 rfl rfl (⟨by simp [d_stripe, isP, c4], hg, fun _ _ => rfl⟩)))
  · refine (ex_il2 dX9_stripe_7 (ex_iconst (v := nI 0) dX9_stripe_8 rfl (ex_iconst (v := nI 2) dX9_stripe_9 rfl (ex_SP3 dX9_stripe_10 lkX9_88 ⟨(Nat.le_of_ble_eq_true rfl), (Nat.le_of_ble_eq_true rfl)⟩ ⟨Nat.le_refl _, Nat.le_refl _⟩ (Nat.le_of_ble_eq_true rfl) (m_in _ _ _ _ _ _) (ex_ifB_ne (tgt := 18) dX9_stripe_13 rfl (fun c13 => ?_) (fun c13 => ?_))))))
    · have hP : isP s = true := c4
      obtain ⟨s, hs, rfl⟩ := isP_nat hP
      obtain ⟨j, hj, rfl⟩ := inB_nat (by decide) c13
      have hlt : ∀ i, wh g.1 g.2.1 s = some i → i < 2 ^ 31 := fun i h => by have := wh_lt h; omega
      refine (ex_al0 dX9_stripe_18 (ex_VV0 dX9_stripe_19 lkX9_190 (md_sh hB) ⟨_, _, rfl⟩ ⟨(Nat.le_of_ble_eq_true rfl), (Nat.le_of_ble_eq_true rfl)⟩ ⟨Nat.le_refl _, Nat.le_refl _⟩ (Nat.le_of_ble_eq_true rfl) (r_asItIs hB M g hg) (fun M19 h19 => ?_)))
      subst h19
      refine (ex_al0 dX9_stripe_22 (ex_VV0 dX9_stripe_23 lkX9_199 (md_sh hB) ⟨_, _, rfl⟩ ⟨(Nat.le_of_ble_eq_true rfl), (Nat.le_of_ble_eq_true rfl)⟩ ⟨Nat.le_refl _, Nat.le_refl _⟩ (Nat.le_of_ble_eq_true rfl) (r_paint hB M g hg hv) (fun M23 h23 => ?_)))
      subst h23
      have hst : lgt B g M (B + 4) 1 = g.2.1.2.1 := by rw [lgt_oc (by omega)]; exact hg.2.2.2.2.1.2.1
      rcases (show j = 0 ∨ j = 1 ∨ j = 2 by omega) with rfl | rfl | rfl
      · refine (ex_il2 dX9_stripe_26 (ex_if_neN (tgt := 39) dX9_stripe_27 rfl (by omega) (fun c27 => (absurd rfl c27)) (fun c27 => (ex_al0 dX9_stripe_30 (ex_getR dX9_stripe_31 flX9_55 (md_sh hB) (md_r27 hB) (ex_il1 dX9_stripe_34 (ex_ildN dX9_stripe_35 (md_a27 hB) (by omega) (by omega) (ex_goto (tgt := 77) dX9_stripe_36 rfl (ex_ri dX9_stripe_77 rfl rfl (⟨by simp [d_stripe, hP, c13, cN_nI (show s < 2 ^ 31 by omega), lgt_c hs], lgt_RM hg, fun c hc => lgt_oc (Or.inl hc)⟩))))))))))
      · refine (ex_il2 dX9_stripe_26 (ex_if_neN (tgt := 39) dX9_stripe_27 rfl (by omega) (fun c27 => (ex_il2 dX9_stripe_39 (ex_iconst (v := nI 2) dX9_stripe_40 rfl (ex_icmp_neN (tgt := 57) dX9_stripe_41 rfl (by omega) (by omega) (fun c41 => (ex_al0 dX9_stripe_57 (ex_getR dX9_stripe_58 flX9_52 (md_sh hB) (md_r26 hB) (ex_il1 dX9_stripe_61 (ex_ildN dX9_stripe_62 (md_a26 hB) (by omega) (by omega) (ex_top (lgt_w hs) (ex_if_ge (tgt := 71) dX9_stripe_63 rfl (fun c63 => ?_) (fun c63 => ?_)))))))) (fun c41 => (absurd c41 (by decide))))))) (fun c27 => (absurd c27 (by decide)))))
        · refine (ex_al0 dX9_stripe_71 (ex_getR dX9_stripe_72 flX9_52 (md_sh hB) (md_r26 hB) (ex_il1 dX9_stripe_75 (ex_ildN dX9_stripe_76 (md_a26 hB) (by omega) (by omega) (ex_top (lgt_w hs) (ex_ri dX9_stripe_77 rfl rfl ?_))))))
          refine ⟨?_, lgt_RM hg, fun c hc => lgt_oc (Or.inl hc)⟩
          simp only [d_stripe, hP, c13, Bool.and_self, if_true, cN_nI (show s < 2 ^ 31 by omega), if_neg (show ¬ nI 1 = nI 0 by decide), if_neg (show ¬ nI 1 = nI 2 by decide)]
          revert c63
          rw [wI_ge hlt]
          cases wh g.1 g.2.1 s
          · exact fun h => absurd rfl h
          · exact fun _ => rfl
        · refine (ex_bipush (v := (-4)) dX9_stripe_66 rfl (ex_goto (tgt := 77) dX9_stripe_68 rfl (ex_ri dX9_stripe_77 rfl rfl ?_)))
          refine ⟨?_, lgt_RM hg, fun c hc => lgt_oc (Or.inl hc)⟩
          simp only [d_stripe, hP, c13, Bool.and_self, if_true, cN_nI (show s < 2 ^ 31 by omega), if_neg (show ¬ nI 1 = nI 0 by decide), if_neg (show ¬ nI 1 = nI 2 by decide)]
          revert c63
          rw [wI_ge hlt]
          cases wh g.1 g.2.1 s
          · exact fun _ => rfl
          · exact fun h => absurd (by simp) h
      · refine (ex_il2 dX9_stripe_26 (ex_if_neN (tgt := 39) dX9_stripe_27 rfl (by omega) (fun c27 => (ex_il2 dX9_stripe_39 (ex_iconst (v := nI 2) dX9_stripe_40 rfl (ex_icmp_neN (tgt := 57) dX9_stripe_41 rfl (by omega) (by omega) (fun c41 => (absurd rfl c41)) (fun c41 => (ex_al0 dX9_stripe_44 (ex_getR dX9_stripe_45 flX9_19 (md_sh hB) (md_r6 hB) (ex_iconst (v := nI 1) dX9_stripe_48 rfl (ex_ildN dX9_stripe_49 (md_a6 hB) (by omega) (by omega) (ex_top (hst) (ex_il1 dX9_stripe_50 (ex_ishr dX9_stripe_51 (ex_iconst (v := nI 1) dX9_stripe_52 rfl (ex_iand dX9_stripe_53 (ex_top (bit1 _ (by omega)) (ex_goto (tgt := 77) dX9_stripe_54 rfl (ex_ri dX9_stripe_77 rfl rfl (⟨by simp [d_stripe, hP, c13, cN_nI (show s < 2 ^ 31 by omega), show ¬ nI 2 = nI 0 by decide], lgt_RM hg, fun c hc => lgt_oc (Or.inl hc)⟩)))))))))))))))))) (fun c27 => (absurd c27 (by decide)))))
    · refine (ex_iconst (v := (-1)) dX9_stripe_16 rfl (ex_ri dX9_stripe_17 rfl rfl (⟨by simp [d_stripe, c13], hg, fun _ _ => rfl⟩)))
