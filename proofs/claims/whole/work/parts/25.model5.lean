/-! the reference's calls: what they keep -/
theorem fr_wr {B c i : Nat} {M M' : MM} {x : Int32} (h : ∀ c, c < B → M' c = M c) (hc : B ≤ c) : ∀ c2, c2 < B → wr M' c i x c2 = M c2 := fun c2 h2 => by rw [wr_oc (by omega)]; exact h c2 h2
theorem RM.tx {B : Nat} {M M' : MM} {g : Sg} (h : RM B M g) (t : Tx) (hb : ∀ k, k = 0 ∨ k = 2 ∨ k = 5 ∨ k = 7 ∨ k = 9 ∨ k = 11 → M' B k = M B k) (hc : ∀ c, B + 1 ≤ c → c ≤ B + 7 → M' c = M c) (e1 : M' B 14 = nI t.1) (e2 : ∀ k, k < t.1 → M' (B + 8) k = t.2 k) : RM B M' (g.1, g.2.1, g.2.2.1, g.2.2.2.1, g.2.2.2.2.1, t) := by
  obtain ⟨h1, h2, h3, h4, h5, ⟨h6, h7⟩, ⟨h8, h9⟩, ⟨ha, hb'⟩, hc', hd⟩ := h
  refine ⟨h1.of (hb 0 (by simp)) (hc _ (by omega) (by omega)), h2.of (hb 2 (by simp)) (hc _ (by omega) (by omega)), ?_, (hb 5 (by simp)).trans h4, ?_, ⟨(hb 7 (by simp)).trans h6, ?_⟩, ⟨(hb 9 (by simp)).trans h8, ?_⟩, ⟨(hb 11 (by simp)).trans ha, ?_⟩, e1, e2⟩
  · rw [hc (B + 3) (by omega) (by omega)]; exact h3
  · rw [hc (B + 4) (by omega) (by omega)]; exact h5
  · rw [hc (B + 5) (by omega) (by omega)]; exact h7
  · rw [hc (B + 6) (by omega) (by omega)]; exact h9
  · rw [hc (B + 7) (by omega) (by omega)]; exact hb'
theorem RM.lk {B : Nat} {M M' : MM} {g : Sg} (h : RM B M g) (t : Lk) (hb : ∀ k, k = 0 ∨ k = 2 ∨ k = 5 ∨ k = 7 ∨ k = 9 ∨ k = 14 → M' B k = M B k) (hc : ∀ c, B + 1 ≤ c → c ≤ B + 8 → c ≠ B + 7 → M' c = M c) (e1 : M' B 11 = nI t.1) (e2 : ∀ k, k < t.1 → M' (B + 7) (2 * k) = nI (t.2.1 k) ∧ M' (B + 7) (2 * k + 1) = nI (t.2.2 k)) : RM B M' (g.1, g.2.1, g.2.2.1, g.2.2.2.1, t, g.2.2.2.2.2) := by
  obtain ⟨h1, h2, h3, h4, h5, ⟨h6, h7⟩, ⟨h8, h9⟩, ⟨ha, hb'⟩, hc', hd⟩ := h
  refine ⟨h1.of (hb 0 (by simp)) (hc _ (by omega) (by omega) (by omega)), h2.of (hb 2 (by simp)) (hc _ (by omega) (by omega) (by omega)), ?_, (hb 5 (by simp)).trans h4, ?_, ⟨(hb 7 (by simp)).trans h6, ?_⟩, ⟨(hb 9 (by simp)).trans h8, ?_⟩, ⟨e1, e2⟩, (hb 14 (by simp)).trans hc', ?_⟩
  · rw [hc (B + 3) (by omega) (by omega) (by omega)]; exact h3
  · rw [hc (B + 4) (by omega) (by omega) (by omega)]; exact h5
  · rw [hc (B + 5) (by omega) (by omega) (by omega)]; exact h7
  · rw [hc (B + 6) (by omega) (by omega) (by omega)]; exact h9
  · rw [hc (B + 8) (by omega) (by omega) (by omega)]; exact hd
theorem RM.suk {B : Nat} {M M' : MM} {g : Sg} (h : RM B M g) (x : St) (u kp : Pk) (hb : ∀ k, k = 0 ∨ k = 2 ∨ k = 5 ∨ k = 11 ∨ k = 14 → M' B k = M B k) (hc : ∀ c, c = B + 1 ∨ c = B + 2 ∨ c = B + 3 ∨ c = B + 7 ∨ c = B + 8 → M' c = M c) (e0 : stM (M' (B + 4)) 0 g.1.1.1 x) (e1 : M' B 7 = nI u.1) (e2 : ∀ k, k < u.1 → stM (M' (B + 5)) (20 * k) g.1.1.1 (u.2 k)) (e3 : M' B 9 = nI kp.1) (e4 : ∀ k, k < kp.1 → stM (M' (B + 6)) (20 * k) g.1.1.1 (kp.2 k)) : RM B M' (g.1, x, u, kp, g.2.2.2.2) := by
  obtain ⟨h1, h2, h3, h4, h5, ⟨h6, h7⟩, ⟨h8, h9⟩, ⟨ha, hb'⟩, hc', hd⟩ := h
  refine ⟨h1.of (hb 0 (by simp)) (hc _ (by simp)), h2.of (hb 2 (by simp)) (hc _ (by simp)), ?_, (hb 5 (by simp)).trans h4, e0, ⟨e1, e2⟩, ⟨e3, e4⟩, ⟨(hb 11 (by simp)).trans ha, ?_⟩, (hb 14 (by simp)).trans hc', ?_⟩
  · rw [hc (B + 3) (by simp)]; exact h3
  · rw [hc (B + 7) (by simp)]; exact hb'
  · rw [hc (B + 8) (by simp)]; exact hd
theorem r_write {sh : Sh} {Mr : MR} {B : Nat} (hB : MD sh Mr B) (M : MM) (g : Sg) (hg : RM B M g) (hv : sgV g) (l : Int32) : CtI mX9_write [.ref B, .int l] sh Mr M (PM B M (d_write g l)) := by
  obtain ⟨h1, h2, h3, h4, h5, h6, h7, h8, h9, ha⟩ := id hg
  have h200 := hv.2.2.2.2.2.1
  refine ct_of (mi := mX9_write) (ls := [some (.ref B), some (.int l)]) rfl rfl (Nat.le_of_ble_eq_true rfl) rfl ?_
  refine (ex_il1 dX9_write_0 (ex_bipush (v := nI 32) dX9_write_1 rfl (ex_bipush (v := nI 126) dX9_write_3 rfl (ex_SP3 dX9_write_5 lkX9_88 ⟨(Nat.le_of_ble_eq_true rfl), (Nat.le_of_ble_eq_true rfl)⟩ ⟨Nat.le_refl _, Nat.le_refl _⟩ (Nat.le_of_ble_eq_true rfl) (m_in _ _ _ _ _ _) (ex_ifB_ne (tgt := 13) dX9_write_8 rfl (fun c8 => ?_) (fun c8 => ?_))))))
  · refine (ex_al0 dX9_write_13 (ex_getI dX9_write_14 flX9_95 (md_sh hB) (ex_top (h9) (ex_sipush (v := nI 200) dX9_write_17 rfl (ex_icmp_neN (tgt := 26) dX9_write_20 rfl (by omega) (by omega) (fun c20 => ?_) (fun c20 => ?_))))))
    · refine (ex_al0 dX9_write_26 (ex_getR dX9_write_27 flX9_31 (md_sh hB) (md_r13 hB) (ex_al0 dX9_write_30 (ex_getI dX9_write_31 flX9_95 (md_sh hB) (ex_top (h9) (ex_il1 dX9_write_34 (ex_istN dX9_write_35 (md_a13 hB) (by omega) (by omega) (ex_al0 dX9_write_36 (ex_dupR dX9_write_37 (ex_getI dX9_write_38 flX9_95 (md_sh hB) (ex_top (y := nI (g.2.2.2.2.2.1)) (by rw [wr_oc (by omega)]; exact h9) (ex_iconst (v := nI 1) dX9_write_41 rfl (ex_iaddN dX9_write_42 (ex_putI dX9_write_43 (fpX9_95 _) (md_sh hB) (ex_al0 dX9_write_46 (ex_getI dX9_write_47 flX9_95 (md_sh hB) (ex_top (y := (nI (g.2.2.2.2.2.1 + 1))) (wr_s) (ex_ri dX9_write_50 rfl rfl ?_))))))))))))))))))
      refine ⟨?_, ?_, fr_wr (fr_wr (fun _ _ => rfl) (by omega)) (by omega)⟩
      · simp [d_write, c8, c20]
      · simp only [d_write, c8, c20, if_true, if_false]
        refine hg.tx _ ?_ ?_ wr_s ?_
        · rintro k (rfl | rfl | rfl | rfl | rfl | rfl) <;> simp [wr]
        · intro c c1 c2
          rw [wr_oc (by omega), wr_oc (by omega)]
        · intro k hk
          rw [wr_oc (by omega)]
          by_cases e : k = g.2.2.2.2.2.1
          · subst e; simp [wr_s]
          · rw [wr_oi e]; simp only [if_neg e]; exact ha k (by have hk : k < g.2.2.2.2.2.1 + 1 := hk; omega)
    · refine (ex_bipush (v := (-3)) dX9_write_23 rfl (ex_ri dX9_write_25 rfl rfl (⟨by simp [d_write, c8, c20], by simp only [d_write, c8, c20, if_true]; exact hg, fun _ _ => rfl⟩)))
  · refine (ex_iconst (v := (-1)) dX9_write_11 rfl (ex_ri dX9_write_12 rfl rfl (⟨by simp [d_write, c8], by simp only [d_write, c8]; exact hg, fun _ _ => rfl⟩)))
theorem r_wipe {sh : Sh} {Mr : MR} {B : Nat} (hB : MD sh Mr B) (M : MM) (g : Sg) (hg : RM B M g) : CtI mX9_wipe [.ref B] sh Mr M (PM B M (d_wipe g)) := by
  obtain ⟨h1, h2, h3, h4, h5, h6, h7, h8, h9, ha⟩ := id hg
  refine ct_of (mi := mX9_wipe) (ls := [some (.ref B), none]) rfl rfl (Nat.le_of_ble_eq_true rfl) rfl ?_
  refine (ex_al0 dX9_wipe_0 (ex_getI dX9_wipe_1 flX9_95 (md_sh hB) (ex_top (h9) (ex_is1 dX9_wipe_4 (Nat.le_of_ble_eq_true rfl) rfl (ex_al0 dX9_wipe_5 (ex_iconst (v := nI 0) dX9_wipe_6 rfl (ex_putI dX9_wipe_7 (fpX9_95 _) (md_sh hB) (ex_il1 dX9_wipe_10 (ex_ri dX9_wipe_11 rfl rfl ?_)))))))))
  refine ⟨rfl, ?_, fr_wr (fun _ _ => rfl) (by omega)⟩
  refine hg.tx _ ?_ ?_ wr_s (fun k hk => absurd hk (Nat.not_lt_zero k))
  · rintro k (rfl | rfl | rfl | rfl | rfl | rfl) <;> simp [wr]
  · intro c c1 c2
    rw [wr_oc (by omega)]
theorem r_forget {sh : Sh} {Mr : MR} {B : Nat} (hB : MD sh Mr B) (M : MM) (g : Sg) (hg : RM B M g) : CtI mX9_forget [.ref B] sh Mr M (PM B M (d_forget g)) := by
  obtain ⟨h1, h2, h3, h4, h5, h6, h7, h8, h9, ha⟩ := id hg
  refine ct_of (mi := mX9_forget) (ls := [some (.ref B), none]) rfl rfl (Nat.le_of_ble_eq_true rfl) rfl ?_
  refine (ex_al0 dX9_forget_0 (ex_getI dX9_forget_1 flX9_155 (md_sh hB) (ex_top (h8.1) (ex_is1 dX9_forget_4 (Nat.le_of_ble_eq_true rfl) rfl (ex_al0 dX9_forget_5 (ex_iconst (v := nI 0) dX9_forget_6 rfl (ex_putI dX9_forget_7 (fpX9_155 _) (md_sh hB) (ex_il1 dX9_forget_10 (ex_ri dX9_forget_11 rfl rfl ?_)))))))))
  refine ⟨rfl, ?_, fr_wr (fun _ _ => rfl) (by omega)⟩
  refine hg.lk _ ?_ ?_ wr_s (fun k hk => absurd hk (Nat.not_lt_zero k))
  · rintro k (rfl | rfl | rfl | rfl | rfl | rfl) <;> simp [wr]
  · intro c c1 c2 c3
    rw [wr_oc (by omega)]
theorem isP_nat {s : Int32} (h : isP s = true) : ∃ j, j < 24 ∧ s = nI j := by
  obtain ⟨j, hj, e⟩ := inB_nat (by decide) h
  exact ⟨j, by omega, e⟩
theorem isF_nat {s : Int32} (h : isF s = true) : ∃ j, j < 4 ∧ s = nI j := by
  obtain ⟨j, hj, e⟩ := inB_nat (by decide) h
  exact ⟨j, by omega, e⟩
theorem isC_nat {s : Int32} (h : isC s = true) : ∃ j, j ≤ 4 ∧ s = nI j := inB_nat (by decide) h
theorem w01 {w : Int32} (h : inB w (nI 0) (nI 1) = true) : w = nI 0 ∨ w = nI 1 := by
  obtain ⟨j, hj, rfl⟩ := inB_nat (by decide) h
  rcases (show j = 0 ∨ j = 1 by omega) with rfl | rfl
  · exact Or.inl rfl
  · exact Or.inr rfl
theorem r_look {sh : Sh} {Mr : MR} {B : Nat} (hB : MD sh Mr B) (M : MM) (g : Sg) (hg : RM B M g) (hv : sgV g) (s c : Int32) : CtI mX9_look [.ref B, .int s, .int c] sh Mr M (PM B M (d_look g s c)) := by
  obtain ⟨h1, h2, h3, h4, h5, h6, h7, ⟨h8, h8b⟩, h9, ha⟩ := id hg
  have hl8 := hv.2.2.2.2.1.1
  refine ct_of (mi := mX9_look) (ls := [some (.ref B), some (.int s), some (.int c)]) rfl rfl (Nat.le_of_ble_eq_true rfl) rfl ?_
  refine (ex_il1 dX9_look_0 (ex_SP1 dX9_look_1 lkX9_196 ⟨(Nat.le_of_ble_eq_true rfl), (Nat.le_of_ble_eq_true rfl)⟩ ⟨Nat.le_refl _, Nat.le_refl _⟩ (Nat.le_of_ble_eq_true rfl) (m_isStripe _ _ _ _) (ex_ifB_eq (tgt := 16) dX9_look_4 rfl (fun c4 => ?_) (fun c4 => ?_))))
  · refine (ex_iconst (v := (-1)) dX9_look_16 rfl (ex_ri dX9_look_17 rfl rfl (⟨by simp [d_look, isP, c4], by simp only [d_look, isP, c4]; exact hg, fun _ _ => rfl⟩)))
  · refine (ex_il2 dX9_look_7 (ex_iconst (v := nI 0) dX9_look_8 rfl (ex_iconst (v := nI 4) dX9_look_9 rfl (ex_SP3 dX9_look_10 lkX9_88 ⟨(Nat.le_of_ble_eq_true rfl), (Nat.le_of_ble_eq_true rfl)⟩ ⟨Nat.le_refl _, Nat.le_refl _⟩ (Nat.le_of_ble_eq_true rfl) (m_in _ _ _ _ _ _) (ex_ifB_ne (tgt := 18) dX9_look_13 rfl (fun c13 => ?_) (fun c13 => ?_))))))
    · have hP : isP s = true := c4
      have hC : isC c = true := c13
      refine (ex_al0 dX9_look_18 (ex_getI dX9_look_19 flX9_155 (md_sh hB) (ex_top (h8) (ex_bipush (v := nI 8) dX9_look_22 rfl (ex_icmp_neN (tgt := 30) dX9_look_24 rfl (by omega) (by omega) (fun c24 => ?_) (fun c24 => ?_))))))
      · refine (ex_al0 dX9_look_30 (ex_getR dX9_look_31 flX9_28 (md_sh hB) (md_r12 hB) (ex_iconst (v := nI 2) dX9_look_34 rfl (ex_al0 dX9_look_35 (ex_getI dX9_look_36 flX9_155 (md_sh hB) (ex_top (h8) (ex_imulN dX9_look_39 (ex_il1 dX9_look_40 (ex_istN dX9_look_41 (md_a12 hB) (by omega) (by omega) (ex_al0 dX9_look_42 (ex_getR dX9_look_43 flX9_28 (md_sh hB) (md_r12 hB) (ex_iconst (v := nI 2) dX9_look_46 rfl (ex_al0 dX9_look_47 (ex_getI dX9_look_48 flX9_155 (md_sh hB) (ex_top (y := nI (g.2.2.2.2.1.1)) (by rw [wr_oc (by omega)]; exact h8) (ex_imulN dX9_look_51 (ex_iconst (v := nI 1) dX9_look_52 rfl (ex_iaddN dX9_look_53 (ex_il2 dX9_look_54 (ex_istN dX9_look_55 (md_a12 hB) (by omega) (by omega) (ex_al0 dX9_look_56 (ex_dupR dX9_look_57 (ex_getI dX9_look_58 flX9_155 (md_sh hB) (ex_top (y := nI (g.2.2.2.2.1.1)) (by rw [wr_oc (by omega), wr_oc (by omega)]; exact h8) (ex_iconst (v := nI 1) dX9_look_61 rfl (ex_iaddN dX9_look_62 (ex_putI dX9_look_63 (fpX9_155 _) (md_sh hB) (ex_al0 dX9_look_66 (ex_getI dX9_look_67 flX9_155 (md_sh hB) (ex_top (y := (nI (g.2.2.2.2.1.1 + 1))) (wr_s) (ex_ri dX9_look_70 rfl rfl ?_)))))))))))))))))))))))))))))))
        obtain ⟨s, hs, rfl⟩ := isP_nat hP
        obtain ⟨c, hc, rfl⟩ := isC_nat hC
        refine ⟨?_, ?_, fr_wr (fr_wr (fr_wr (fun _ _ => rfl) (by omega)) (by omega)) (by omega)⟩
        · simp [d_look, hP, hC, c24]
        · simp only [d_look, hP, hC, c24, Bool.and_self, if_true, if_false, cN_nI (show s < 2 ^ 31 by omega), cN_nI (show c < 2 ^ 31 by omega)]
          refine hg.lk _ ?_ ?_ wr_s ?_
          · rintro k (rfl | rfl | rfl | rfl | rfl | rfl) <;> simp [wr]
          · intro c c1 c2 c3
            rw [wr_oc (by omega), wr_oc (by omega), wr_oc (by omega)]
          · intro k hk
            have hk : k < g.2.2.2.2.1.1 + 1 := hk
            rw [wr_oc (by omega)]
            by_cases e : k = g.2.2.2.2.1.1
            · subst e
              simp only [if_true]
              exact ⟨by rw [wr_oi (by omega), wr_s], wr_s⟩
            · simp only [if_neg e]
              rw [wr_oi (by omega), wr_oi (by omega), wr_oi (by omega), wr_oi (by omega)]
              exact h8b k (by omega)
      · refine (ex_bipush (v := (-3)) dX9_look_27 rfl (ex_ri dX9_look_29 rfl rfl (⟨by simp [d_look, hP, hC, c24], by simp only [d_look, hP, hC, c24, Bool.and_self, if_true]; exact hg, fun _ _ => rfl⟩)))
    · refine (ex_iconst (v := (-1)) dX9_look_16 rfl (ex_ri dX9_look_17 rfl rfl (⟨by simp [d_look, isC, c13], by simp only [d_look, isC, c13, Bool.and_false]; exact hg, fun _ _ => rfl⟩)))
