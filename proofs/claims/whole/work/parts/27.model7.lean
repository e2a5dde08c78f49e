/-! the reference's acts -/
theorem stM_congr {r r' : Nat → Int32} {a b n : Nat} {x : St} (hn : n ≤ 6) (h : stM r a n x) (he : ∀ j, j < 20 → r' (b + j) = r (a + j)) : stM r' b n x := by
  obtain ⟨h1, h2, h3⟩ := h
  refine ⟨?_, ?_, fun i hi => ?_⟩
  · have := he 0 (by omega); rw [Nat.add_zero, Nat.add_zero] at this; rw [this]; exact h1
  · rw [he 1 (by omega)]; exact h2
  · rw [he (2 + i) (by omega), he (8 + i) (by omega), he (14 + i) (by omega)]; exact h3 i hi
def shf (M : MM) (c i : Nat) : MM := fun c2 j => if c2 = c ∧ j < i then M c (j + 20) else M c2 j
theorem shf_0 {M : MM} {c : Nat} : shf M c 0 = M := by funext c2 j; simp [shf]
theorem shf_s {M : MM} {c i : Nat} : wr (shf M c i) c i (M c (i + 20)) = shf M c (i + 1) := by
  funext c2 j
  unfold wr shf
  by_cases h : c2 = c
  · subst h
    by_cases h2 : j = i
    · subst h2; simp
    · have e : j < i + 1 ↔ j < i := by omega
      simp [h2, e]
  · simp [h]
theorem shf_oc {M : MM} {c i c2 : Nat} (h : c2 ≠ c) : shf M c i c2 = M c2 := by funext j; simp [shf, h]
theorem shf_hi {M : MM} {c i j : Nat} (h : i ≤ j) : shf M c i c j = M c j := by simp [shf, show ¬ j < i by omega]
theorem shf_lo {M : MM} {c i j : Nat} (h : j < i) : shf M c i c j = M c (j + 20) := by simp [shf, h]
def RemM (B n : Nat) (M : MM) (u : Pk) (x : St) : MM → Prop := fun M' => (∀ c, c ≠ B → c ≠ B + 5 → M' c = M c) ∧ (∀ k, k ≠ 7 → M' B k = M B k) ∧ M' B 7 = nI (rem u x).1 ∧ ∀ k, k < (rem u x).1 → stM (M' (B + 5)) (20 * k) n ((rem u x).2 k)
theorem m_remembers {sh : Sh} {Mr : MR} {B : Nat} (hB : MD sh Mr B) (M : MM) (n : Nat) (u : Pk) (x : St) (hn : n ≤ 6) (h7 : M B 7 = nI u.1) (h8 : u.1 ≤ 8) (hu : ∀ k, k < u.1 → stM (M (B + 5)) (20 * k) n (u.2 k)) (hx : stM (M (B + 4)) 0 n x) : CtV mX9_remembers [.ref B] sh Mr M (RemM B n M u x) := by
  refine ct_of (mi := mX9_remembers) (ls := [some (.ref B), none]) rfl rfl (Nat.le_of_ble_eq_true rfl) rfl ?_
  have J : ∀ (M1 : MM) (a : Nat) (o : Option AV), a ≤ 7 → M1 B 7 = nI a → RemM B n M u x (wr (putR M1 (B + 5) (20 * a) (M1 (B + 4)) 20) B 7 (nI (a + 1))) → EV mX9_remembers sh Mr (RemM B n M u x) 49 [some (.ref B), o] [] M1 := by
    intro M1 a o ha e7 hQ
    refine (ex_al0 dX9_remembers_49 (ex_getR dX9_remembers_50 flX9_22 (md_sh hB) (md_r8 hB) (ex_bipush (v := nI 20) dX9_remembers_53 rfl (ex_al0 dX9_remembers_55 (ex_getI dX9_remembers_56 flX9_149 (md_sh hB) (ex_top (e7) (ex_imulN dX9_remembers_59 (ex_al0 dX9_remembers_60 (ex_getR dX9_remembers_61 flX9_19 (md_sh hB) (md_r6 hB) (ex_bipush (v := nI 20) dX9_remembers_64 rfl (ex_SV4 dX9_remembers_66 lkX9_145 ⟨(Nat.le_of_ble_eq_true rfl), (Nat.le_of_ble_eq_true rfl)⟩ ⟨Nat.le_refl _, Nat.le_refl _⟩ (Nat.le_of_ble_eq_true rfl) (m_put (B + 5) (B + 4) 160 20 (20 * a) 20 (md_a8 hB) (md_a6 hB) (by omega) (by omega) (by omega) (by omega) (by omega) M1) (fun M66 h66 => ?_))))))))))))
    subst h66
    refine (ex_al0 dX9_remembers_69 (ex_dupR dX9_remembers_70 (ex_getI dX9_remembers_71 flX9_149 (md_sh hB) (ex_top (y := nI (a)) (by rw [putR_oc (by omega)]; exact e7) (ex_iconst (v := nI 1) dX9_remembers_74 rfl (ex_iaddN dX9_remembers_75 (ex_putI dX9_remembers_76 (fpX9_149 _) (md_sh hB) (ex_rv dX9_remembers_79 rfl (hQ)))))))))
  have e20 : ∀ (M1 : MM) (a : Nat), stM (M1 (B + 4)) 0 n x → stM (putR M1 (B + 5) (20 * a) (M1 (B + 4)) 20 (B + 5)) (20 * a) n x := fun M1 a h => stM_congr hn h (fun j hj => by rw [putR_in hj, Nat.zero_add])
  refine (ex_al0 dX9_remembers_0 (ex_getI dX9_remembers_1 flX9_149 (md_sh hB) (ex_top (h7) (ex_bipush (v := nI 8) dX9_remembers_4 rfl (ex_icmp_neN (tgt := 49) dX9_remembers_6 rfl (by omega) (by omega) (fun c6 => ?_) (fun c6 => ?_))))))
  · refine J M u.1 _ (by omega) h7 ?_
    have hr : rem u x = (u.1 + 1, fun k => if k = u.1 then x else u.2 k) := by simp [rem, c6]
    refine ⟨fun c h1 h2 => by rw [wr_oc h1, putR_oc h2], fun k hk => by rw [wr_oi hk, putR_oc (by omega)], by rw [wr_s, hr], fun k hk => ?_⟩
    rw [hr] at hk ⊢
    have hk : k < u.1 + 1 := hk
    rw [wr_oc (by omega)]
    by_cases e : k = u.1
    · subst e
      simp only [if_true]
      exact e20 M u.1 hx
    · simp only [if_neg e]
      refine stM_congr hn (hu k (by omega)) (fun j hj => ?_)
      rw [putR_out (by omega)]
  · have hr : rem u x = (8, fun k => if k = 7 then x else u.2 (k + 1)) := by simp [rem, c6]
    refine (ex_iconst (v := nI 0) dX9_remembers_9 rfl (ex_is1 dX9_remembers_10 (Nat.le_of_ble_eq_true rfl) rfl ?_))
    refine ex_for (I := fun i ls M' => ls = [some (.ref B), some (.int (nI i))] ∧ M' = shf M (B + 5) i) 140 ?_ ?_ 0 _ _ (Nat.zero_le _) ⟨rfl, shf_0.symm⟩
    · intro i ls M' hi h ih
      obtain ⟨rfl, rfl⟩ := h
      refine (ex_il1 dX9_remembers_11 (ex_sipush (v := nI 140) dX9_remembers_12 rfl (ex_icmp_geN (tgt := 39) dX9_remembers_15 rfl (by omega) (by omega) (fun c15 => (absurd c15 (by omega))) (fun c15 => (ex_al0 dX9_remembers_18 (ex_getR dX9_remembers_19 flX9_22 (md_sh hB) (md_r8 hB) (ex_il1 dX9_remembers_22 (ex_al0 dX9_remembers_23 (ex_getR dX9_remembers_24 flX9_22 (md_sh hB) (md_r8 hB) (ex_il1 dX9_remembers_27 (ex_bipush (v := nI 20) dX9_remembers_28 rfl (ex_iaddN dX9_remembers_30 (ex_ildN dX9_remembers_31 (md_a8 hB) (by omega) (by omega) (ex_top (shf_hi (by omega)) (ex_istN dX9_remembers_32 (md_a8 hB) (by omega) (by omega) (ex_inc1 dX9_remembers_33 (Nat.le_of_ble_eq_true rfl) rfl (inc1 _) (ex_goto (tgt := 11) dX9_remembers_36 rfl ?_)))))))))))))))))
      exact ih _ _ ⟨rfl, shf_s⟩
    · intro ls M' h
      obtain ⟨rfl, rfl⟩ := h
      refine (ex_il1 dX9_remembers_11 (ex_sipush (v := nI 140) dX9_remembers_12 rfl (ex_icmp_geN (tgt := 39) dX9_remembers_15 rfl (by omega) (by omega) (fun c15 => (ex_al0 dX9_remembers_39 (ex_dupR dX9_remembers_40 (ex_getI dX9_remembers_41 flX9_149 (md_sh hB) (ex_top (y := nI (8)) (by rw [shf_oc (by omega), h7, c6]) (ex_iconst (v := nI 1) dX9_remembers_44 rfl (ex_isubN dX9_remembers_45 (by omega) (ex_putI dX9_remembers_46 (fpX9_149 _) (md_sh hB) ?_)))))))) (fun c15 => (absurd (Nat.le_refl 140) c15)))))
      refine J _ 7 _ (by omega) wr_s ?_
      have hc : ∀ c, c ≠ B → c ≠ B + 5 → wr (shf M (B + 5) 140) B 7 (nI (8 - 1)) c = M c := fun c h1 h2 => by rw [wr_oc h1, shf_oc h2]
      refine ⟨fun c h1 h2 => by rw [wr_oc h1, putR_oc h2, hc c h1 h2], fun k hk => by rw [wr_oi hk, putR_oc (by omega), wr_oi hk, shf_oc (by omega)], by rw [wr_s, hr], fun k hk => ?_⟩
      rw [hr] at hk ⊢
      have hk : k < 8 := hk
      rw [wr_oc (by omega)]
      by_cases e : k = 7
      · subst e
        simp only [if_true]
        exact e20 _ 7 (by rw [hc _ (by omega) (by omega)]; exact hx)
      · simp only [if_neg e]
        refine stM_congr hn (hu (k + 1) (by omega)) (fun j hj => ?_)
        rw [putR_out (by omega), wr_oc (by omega), shf_lo (by omega)]
        congr 1
        omega
/-- the state's row is written, the act remembered -/
theorem RM.acts {B : Nat} {M M1 M' : MM} {g : Sg} (hg : RM B M g) (hr : RemM B g.1.1.1 M g.2.2.1 g.2.1 M1) (hc : ∀ c, c ≠ B + 4 → M' c = M1 c) (x : St) (hx : stM (M' (B + 4)) 0 g.1.1.1 x) : RM B M' (act g x) ∧ ∀ c, c < B → M' c = M c := by
  obtain ⟨r1, r2, r3, r4⟩ := hr
  refine ⟨hg.suk x (rem g.2.2.1 g.2.1) g.2.2.2.1 ?_ ?_ hx (by rw [hc _ (by omega)]; exact r3) (by rw [hc _ (by omega)]; exact r4) (by rw [hc _ (by omega), r2 9 (by omega)]; exact hg.2.2.2.2.2.2.1.1) (by rw [hc _ (by omega), r1 _ (by omega) (by omega)]; exact hg.2.2.2.2.2.2.1.2), fun c h => by rw [hc _ (by omega), r1 _ (by omega) (by omega)]⟩
  · rintro k (rfl | rfl | rfl | rfl | rfl) <;> rw [hc _ (by omega), r2 _ (by omega)]
  · rintro c (rfl | rfl | rfl | rfl | rfl) <;> rw [hc _ (by omega), r1 _ (by omega) (by omega)]
theorem r_remembers {sh : Sh} {Mr : MR} {B : Nat} (hB : MD sh Mr B) (M : MM) (g : Sg) (hg : RM B M g) (hv : sgV g) : CtV mX9_remembers [.ref B] sh Mr M (RemM B g.1.1.1 M g.2.2.1 g.2.1) := m_remembers hB M _ _ _ hg.1.2.1 hg.2.2.2.2.2.1.1 hv.2.2.1.1 hg.2.2.2.2.2.1.2 hg.2.2.2.2.1
theorem nI_xn {a : Nat} {v : Int32} {b : Nat} (h : v = nI b) : nI a + v = nI (a + b) := by rw [h, nI_add]
theorem r_pass {sh : Sh} {Mr : MR} {B : Nat} (hB : MD sh Mr B) (M : MM) (g : Sg) (hg : RM B M g) (hv : sgV g) (n : Int32) : CtI mX9_pass [.ref B, .int n] sh Mr M (PM B M (d_pass g n)) := by
  have h6 := hv.1.1.1
  have h999 := hv.2.1.1
  have hst := hg.2.2.2.2.1
  refine ct_of (mi := mX9_pass) (ls := [some (.ref B), some (.int n), none]) rfl rfl (Nat.le_of_ble_eq_true rfl) rfl ?_
  refine (ex_il1 dX9_pass_0 (ex_iconst (v := nI 1) dX9_pass_1 rfl (ex_bipush (v := nI 30) dX9_pass_2 rfl (ex_SP3 dX9_pass_4 lkX9_88 ⟨(Nat.le_of_ble_eq_true rfl), (Nat.le_of_ble_eq_true rfl)⟩ ⟨Nat.le_refl _, Nat.le_refl _⟩ (Nat.le_of_ble_eq_true rfl) (m_in _ _ _ _ _ _) (ex_ifB_ne (tgt := 12) dX9_pass_7 rfl (fun c7 => ?_) (fun c7 => ?_))))))
  · obtain ⟨k, hk, rfl⟩ : ∃ k, (1 ≤ k ∧ k ≤ 30) ∧ n = nI k := by
      obtain ⟨j, hj, e⟩ := inB_nat (v := n) (b := 30) (by decide) (by simp only [inB, Bool.and_eq_true, decide_eq_true_eq] at c7 ⊢; exact ⟨Int32.le_trans (by decide) c7.1, c7.2⟩)
      refine ⟨j, ⟨?_, hj⟩, e⟩
      rw [e, inB_nI (by omega) (by omega) (by omega)] at c7
      simp at c7
      omega
    have hcn : cN (nI k) = k := cN_nI (by omega)
    refine (ex_al0 dX9_pass_12 (ex_getR dX9_pass_13 flX9_19 (md_sh hB) (md_r6 hB) (ex_iconst (v := nI 0) dX9_pass_16 rfl (ex_ildN dX9_pass_17 (md_a6 hB) (by omega) (by omega) (ex_top (hst.1) (ex_il1 dX9_pass_18 (ex_iaddN dX9_pass_19 (ex_sipush (v := nI 999) dX9_pass_20 rfl (ex_icmp_leN (tgt := 29) dX9_pass_23 rfl (by omega) (by omega) (fun c23 => ?_) (fun c23 => ?_))))))))))
    · have hd : d_pass g (nI k) = (nI (g.2.1.1 + k), act g (goBy g.1 g.2.1 k)) := by simp [d_pass, c7, hcn, c23]
      rw [hd]
      refine (ex_al0 dX9_pass_29 (ex_VV0 dX9_pass_30 lkX9_202 (md_sh hB) ⟨_, _, rfl⟩ ⟨(Nat.le_of_ble_eq_true rfl), (Nat.le_of_ble_eq_true rfl)⟩ ⟨Nat.le_refl _, Nat.le_refl _⟩ (Nat.le_of_ble_eq_true rfl) (r_remembers hB M g hg hv) (fun M30 h30 => ?_)))
      have hM : ∀ c, c ≠ B → c ≠ B + 5 → M30 c = M c := h30.1
      refine (ex_al0 dX9_pass_33 (ex_getR dX9_pass_34 flX9_19 (md_sh hB) (md_r6 hB) (ex_iconst (v := nI 0) dX9_pass_37 rfl (ex_dup2 dX9_pass_38 (ex_ildN dX9_pass_39 (md_a6 hB) (by omega) (by omega) (ex_top (y := nI (g.2.1.1)) (by rw [hM _ (by omega) (by omega)]; exact hst.1) (ex_il1 dX9_pass_40 (ex_iaddN dX9_pass_41 (ex_istN dX9_pass_42 (md_a6 hB) (by omega) (by omega) (ex_iconst (v := nI 0) dX9_pass_43 rfl (ex_is2 dX9_pass_44 (Nat.le_of_ble_eq_true rfl) rfl ?_)))))))))))
      refine ex_for (I := fun i ls M' => ls = [some (.ref B), some (.int (nI k)), some (.int (nI i))] ∧ M' = fun c j => if c = B + 4 ∧ j = 0 then nI (g.2.1.1 + k) else if c = B + 4 ∧ 2 ≤ j ∧ j < 2 + i then g.2.1.2.2.1 (j - 2) + nI k * g.1.1.2.2.1 (j - 2) else M30 c j) g.1.1.1 ?_ ?_ 0 _ _ (Nat.zero_le _) ⟨rfl, ?_⟩
      · intro i ls M' hi h ih
        obtain ⟨rfl, rfl⟩ := h
        obtain ⟨e1, e2, e3, e4, e5⟩ := hg.1.2.2 i hi
        have s1 := (hst.2.2 i hi).1
        rw [Nat.zero_add] at s1
        refine (ex_il2 dX9_pass_45 (ex_al0 dX9_pass_46 (ex_getI dX9_pass_47 flX9_85 (md_sh hB) (ex_top (y := nI (g.1.1.1)) (by simp only [show ¬ B = B + 4 by omega, false_and, if_false]; rw [h30.2.1 0 (by omega)]; exact hg.1.1) (ex_icmp_geN (tgt := 82) dX9_pass_50 rfl (by omega) (by omega) (fun c50 => (absurd c50 (by omega))) (fun c50 => (ex_al0 dX9_pass_53 (ex_getR dX9_pass_54 flX9_19 (md_sh hB) (md_r6 hB) (ex_iconst (v := nI 2) dX9_pass_57 rfl (ex_il2 dX9_pass_58 (ex_iaddN dX9_pass_59 (ex_dup2 dX9_pass_60 (ex_ildN dX9_pass_61 (md_a6 hB) (by omega) (by omega) (ex_top (y := (g.2.1.2.2.1 i)) (by simp only [show ¬ 2 + i = 0 by omega, and_false, if_false, show ¬ (2 + i < 2 + i) by omega]; rw [hM _ (by omega) (by omega)]; exact s1) (ex_il1 dX9_pass_62 (ex_al0 dX9_pass_63 (ex_getR dX9_pass_64 flX9_7 (md_sh hB) (md_r1 hB) (ex_iconst (v := nI 3) dX9_pass_67 rfl (ex_il2 dX9_pass_68 (ex_imulN dX9_pass_69 (ex_iconst (v := nI 1) dX9_pass_70 rfl (ex_iaddN dX9_pass_71 (ex_ildN dX9_pass_72 (md_a1 hB) (by omega) (by omega) (ex_top (y := (g.1.1.2.2.1 i)) (by simp only [show ¬ B + 1 = B + 4 by omega, false_and, if_false]; rw [hM _ (by omega) (by omega)]; exact e3) (ex_imul dX9_pass_73 (ex_iadd dX9_pass_74 (ex_istN dX9_pass_75 (md_a6 hB) (by omega) (by omega) (ex_inc2 dX9_pass_76 (Nat.le_of_ble_eq_true rfl) rfl (inc1 _) (ex_goto (tgt := 45) dX9_pass_79 rfl ?_)))))))))))))))))))))))))))))
        refine ih _ _ ⟨rfl, ?_⟩
        funext c j
        unfold wr
        by_cases hc : c = B + 4
        · subst hc
          by_cases hj : j = 2 + i
          · subst hj
            simp
          · by_cases h0 : j = 0
            · subst h0; simp; intro h; omega
            · have e : (2 ≤ j ∧ j < 2 + (i + 1)) ↔ (2 ≤ j ∧ j < 2 + i) := by omega
              simp [hj, h0, e]
        · simp [hc]
      · intro ls M' h
        obtain ⟨rfl, rfl⟩ := h
        refine (ex_il2 dX9_pass_45 (ex_al0 dX9_pass_46 (ex_getI dX9_pass_47 flX9_85 (md_sh hB) (ex_top (y := nI (g.1.1.1)) (by simp only [show ¬ B = B + 4 by omega, false_and, if_false]; rw [h30.2.1 0 (by omega)]; exact hg.1.1) (ex_icmp_geN (tgt := 82) dX9_pass_50 rfl (by omega) (by omega) (fun c50 => (ex_al0 dX9_pass_82 (ex_getR dX9_pass_83 flX9_19 (md_sh hB) (md_r6 hB) (ex_iconst (v := nI 0) dX9_pass_86 rfl (ex_ildN dX9_pass_87 (md_a6 hB) (by omega) (by omega) (ex_top (y := (nI (g.2.1.1 + k))) (by simp) (ex_ri dX9_pass_88 rfl rfl ?_))))))) (fun c50 => (absurd (Nat.le_refl _) c50)))))))
        refine ⟨rfl, hg.acts h30 (fun c hc => by funext j; simp [hc]) _ ⟨by simp [goBy], ?_, fun i hi => ?_⟩⟩
        · simp only [Nat.zero_add, show ¬ (1 = 0) by decide, and_false, if_false, show ¬ (2 ≤ 1) by decide, false_and]
          rw [hM _ (by omega) (by omega)]
          have := hst.2.1
          rw [Nat.zero_add] at this
          exact this
        · have s1 := hst.2.2 i hi
          simp only [Nat.zero_add] at s1 ⊢
          refine ⟨by simp [hi, goBy], ?_, ?_⟩
          · simp only [show ¬ 8 + i = 0 by omega, and_false, if_false, show ¬ (8 + i < 2 + g.1.1.1) by omega]
            rw [hM _ (by omega) (by omega)]
            exact s1.2.1
          · simp only [show ¬ 14 + i = 0 by omega, and_false, if_false, show ¬ (14 + i < 2 + g.1.1.1) by omega]
            rw [hM _ (by omega) (by omega)]
            exact s1.2.2
      · funext c j
        unfold wr
        by_cases hc : c = B + 4
        · subst hc
          by_cases h0 : j = 0
          · subst h0; simp
          · simp [h0, show ¬ (2 ≤ j ∧ j < 2) by omega]
        · simp [hc]
    · refine (ex_bipush (v := (-2)) dX9_pass_26 rfl (ex_ri dX9_pass_28 rfl rfl (⟨by simp [d_pass, c7, hcn, show ¬ g.2.1.1 + k ≤ 999 from c23], by simp only [d_pass, c7, hcn, if_true, if_neg (show ¬ g.2.1.1 + k ≤ 999 from c23)]; exact hg, fun _ _ => rfl⟩)))
  · refine (ex_iconst (v := (-1)) dX9_pass_10 rfl (ex_ri dX9_pass_11 rfl rfl (⟨by simp [d_pass, c7], by simp only [d_pass, c7]; exact hg, fun _ _ => rfl⟩)))
