/-! the reference: owed, panes, tenant, count -/
theorem smI_s (f : Nat → Int32) (n : Nat) : smI f (n + 1) = smI f n + f n := rfl
theorem r_owed {sh : Sh} {Mr : MR} {B : Nat} (hB : MD sh Mr B) (M : MM) (g : Sg) (hg : RM B M g) (hv : sgV g) (w : Int32) : CtI mX9_owed [.ref B, .int w] sh Mr M (PM B M (d_owed g w)) := by
  have h6 := hv.1.1.1
  have hst := hg.2.2.2.2.1
  refine ct_of (mi := mX9_owed) (ls := [some (.ref B), some (.int w), none, none]) rfl rfl (Nat.le_of_ble_eq_true rfl) rfl ?_
  refine (ex_il1 dX9_owed_0 (ex_iconst (v := nI 0) dX9_owed_1 rfl (ex_iconst (v := nI 1) dX9_owed_2 rfl (ex_SP3 dX9_owed_3 lkX9_88 ⟨(Nat.le_of_ble_eq_true rfl), (Nat.le_of_ble_eq_true rfl)⟩ ⟨Nat.le_refl _, Nat.le_refl _⟩ (Nat.le_of_ble_eq_true rfl) (m_in _ _ _ _ _ _) (ex_ifB_ne (tgt := 11) dX9_owed_6 rfl (fun c6 => ?_) (fun c6 => ?_))))))
  · have hd : d_owed g w = (if w = nI 0 then smI g.2.1.2.2.1 g.1.1.1 else smI g.1.1.2.2.1 g.1.1.1, g) := by simp [d_owed, c6]
    rw [hd]
    rcases w01 c6 with rfl | rfl
    · rw [if_pos rfl]
      refine (ex_iconst (v := nI 0) dX9_owed_11 rfl (ex_is2 dX9_owed_12 (Nat.le_of_ble_eq_true rfl) rfl (ex_iconst (v := nI 0) dX9_owed_13 rfl (ex_is3 dX9_owed_14 (Nat.le_of_ble_eq_true rfl) rfl ?_))))
      refine ex_for (I := fun i ls M' => ls = [some (.ref B), some (.int (nI 0)), some (.int (smI g.2.1.2.2.1 i)), some (.int (nI i))] ∧ M' = M) g.1.1.1 ?_ ?_ 0 _ _ (Nat.zero_le _) ⟨rfl, rfl⟩
      · intro i ls M' hi h ih
        obtain ⟨rfl, rfl⟩ := h
        have s1 := (hst.2.2 i hi).1
        rw [Nat.zero_add] at s1
        refine (ex_il3 dX9_owed_15 (ex_al0 dX9_owed_16 (ex_getI dX9_owed_17 flX9_85 (md_sh hB) (ex_top (hg.1.1) (ex_icmp_geN (tgt := 57) dX9_owed_20 rfl (by omega) (by omega) (fun c20 => (absurd c20 (by omega))) (fun c20 => (ex_il2 dX9_owed_23 (ex_il1 dX9_owed_24 (ex_if_neN (tgt := 39) dX9_owed_25 rfl (by omega) (fun c25 => (absurd rfl c25)) (fun c25 => (ex_al0 dX9_owed_28 (ex_getR dX9_owed_29 flX9_19 (md_sh hB) (md_r6 hB) (ex_iconst (v := nI 2) dX9_owed_32 rfl (ex_il3 dX9_owed_33 (ex_iaddN dX9_owed_34 (ex_ildN dX9_owed_35 (md_a6 hB) (by omega) (by omega) (ex_top (s1) (ex_goto (tgt := 49) dX9_owed_36 rfl (ex_iadd dX9_owed_49 (ex_is2 dX9_owed_50 (Nat.le_of_ble_eq_true rfl) rfl (ex_inc3 dX9_owed_51 (Nat.le_of_ble_eq_true rfl) rfl (inc1 _) (ex_goto (tgt := 15) dX9_owed_54 rfl ?_))))))))))))))))))))))
        exact ih _ _ ⟨rfl, rfl⟩
      · intro ls M' h
        obtain ⟨rfl, rfl⟩ := h
        refine (ex_il3 dX9_owed_15 (ex_al0 dX9_owed_16 (ex_getI dX9_owed_17 flX9_85 (md_sh hB) (ex_top (hg.1.1) (ex_icmp_geN (tgt := 57) dX9_owed_20 rfl (by omega) (by omega) (fun c20 => (ex_il2 dX9_owed_57 (ex_ri dX9_owed_58 rfl rfl (⟨rfl, hg, fun _ _ => rfl⟩)))) (fun c20 => (absurd (Nat.le_refl _) c20)))))))
    · rw [if_neg (by decide)]
      refine (ex_iconst (v := nI 0) dX9_owed_11 rfl (ex_is2 dX9_owed_12 (Nat.le_of_ble_eq_true rfl) rfl (ex_iconst (v := nI 0) dX9_owed_13 rfl (ex_is3 dX9_owed_14 (Nat.le_of_ble_eq_true rfl) rfl ?_))))
      refine ex_for (I := fun i ls M' => ls = [some (.ref B), some (.int (nI 1)), some (.int (smI g.1.1.2.2.1 i)), some (.int (nI i))] ∧ M' = M) g.1.1.1 ?_ ?_ 0 _ _ (Nat.zero_le _) ⟨rfl, rfl⟩
      · intro i ls M' hi h ih
        obtain ⟨rfl, rfl⟩ := h
        have s1 := (hg.1.2.2 i hi).2.2.1
        refine (ex_il3 dX9_owed_15 (ex_al0 dX9_owed_16 (ex_getI dX9_owed_17 flX9_85 (md_sh hB) (ex_top (hg.1.1) (ex_icmp_geN (tgt := 57) dX9_owed_20 rfl (by omega) (by omega) (fun c20 => (absurd c20 (by omega))) (fun c20 => (ex_il2 dX9_owed_23 (ex_il1 dX9_owed_24 (ex_if_neN (tgt := 39) dX9_owed_25 rfl (by omega) (fun c25 => (ex_al0 dX9_owed_39 (ex_getR dX9_owed_40 flX9_7 (md_sh hB) (md_r1 hB) (ex_iconst (v := nI 3) dX9_owed_43 rfl (ex_il3 dX9_owed_44 (ex_imulN dX9_owed_45 (ex_iconst (v := nI 1) dX9_owed_46 rfl (ex_iaddN dX9_owed_47 (ex_ildN dX9_owed_48 (md_a1 hB) (by omega) (by omega) (ex_top (s1) (ex_iadd dX9_owed_49 (ex_is2 dX9_owed_50 (Nat.le_of_ble_eq_true rfl) rfl (ex_inc3 dX9_owed_51 (Nat.le_of_ble_eq_true rfl) rfl (inc1 _) (ex_goto (tgt := 15) dX9_owed_54 rfl ?_)))))))))))))) (fun c25 => (absurd c25 (by decide))))))))))))
        exact ih _ _ ⟨rfl, rfl⟩
      · intro ls M' h
        obtain ⟨rfl, rfl⟩ := h
        refine (ex_il3 dX9_owed_15 (ex_al0 dX9_owed_16 (ex_getI dX9_owed_17 flX9_85 (md_sh hB) (ex_top (hg.1.1) (ex_icmp_geN (tgt := 57) dX9_owed_20 rfl (by omega) (by omega) (fun c20 => (ex_il2 dX9_owed_57 (ex_ri dX9_owed_58 rfl rfl (⟨rfl, hg, fun _ _ => rfl⟩)))) (fun c20 => (absurd (Nat.le_refl _) c20)))))))
  · refine (ex_iconst (v := (-1)) dX9_owed_9 rfl (ex_ri dX9_owed_10 rfl rfl (⟨by simp [d_owed, c6], hg, fun _ _ => rfl⟩)))
/-- bits that come one by one, at places f k -/
def bor (p : Nat → Bool) (f : Nat → Nat) : Nat → Int32
  | 0 => nI 0
  | n + 1 => if p n then bor p f n ||| (nI 1 <<< (nI (f n) &&& 31)) else bor p f n
theorem bt_bor {p : Nat → Bool} {f : Nat → Nat} : ∀ {n : Nat}, (∀ k, k < n → f k < 32) → ∀ i, i < 32 → bt (bor p f n) i = anyb (fun k => p k && decide (f k = i)) n
  | 0, _, i, hi => by unfold bor anyb; rw [nI_0]; exact b_0 i
  | n + 1, h, i, hi => by
    have ih := bt_bor (p := p) (f := f) (n := n) (fun k hk => h k (by omega)) i hi
    unfold bor anyb
    by_cases hp : p n = true
    · rw [if_pos hp, b_or, ih, one_shl (h n (by omega)) hi, hp]
      congr 1
      rw [Bool.true_and]
      apply decide_eq_decide.mpr
      exact eq_comm
    · rw [if_neg hp, ih]
      simp [hp]
theorem bor_t {p : Nat → Bool} {f : Nat → Nat} {n : Nat} (h : p n = true) : bor p f n ||| (nI 1 <<< (nI (f n) &&& 31)) = bor p f (n + 1) := by
  rw [show bor p f (n + 1) = if p n then bor p f n ||| (nI 1 <<< (nI (f n) &&& 31)) else bor p f n from rfl, if_pos h]
theorem or_0 (x : Int32) : x ||| nI 0 = x := by
  apply b_ext
  intro i hi
  rw [b_or, nI_0, b_0]; simp
theorem bor_f {p : Nat → Bool} {f : Nat → Nat} {n : Nat} (h : p n = false) : bor p f n ||| nI 0 = bor p f (n + 1) := by
  rw [show bor p f (n + 1) = if p n then bor p f n ||| (nI 1 <<< (nI (f n) &&& 31)) else bor p f n from rfl, if_neg (by rw [h]; decide), or_0]
theorem r_panes {sh : Sh} {Mr : MR} {B : Nat} (hB : MD sh Mr B) (M : MM) (g : Sg) (hg : RM B M g) (hv : sgV g) : CtI mX9_panes [.ref B] sh Mr M (PM B M (d_panes g)) := by
  have h6 := hv.1.1.1
  have hl8 := hv.2.2.2.2.1.1
  refine ct_of (mi := mX9_panes) (ls := [some (.ref B), none, none, none]) rfl rfl (Nat.le_of_ble_eq_true rfl) rfl ?_
  refine (ex_al0 dX9_panes_0 (ex_VV0 dX9_panes_1 lkX9_190 (md_sh hB) ⟨_, _, rfl⟩ ⟨(Nat.le_of_ble_eq_true rfl), (Nat.le_of_ble_eq_true rfl)⟩ ⟨Nat.le_refl _, Nat.le_refl _⟩ (Nat.le_of_ble_eq_true rfl) (r_asItIs hB M g hg) (fun M1 h1 => ?_)))
  subst h1
  refine (ex_al0 dX9_panes_4 (ex_VV0 dX9_panes_5 lkX9_199 (md_sh hB) ⟨_, _, rfl⟩ ⟨(Nat.le_of_ble_eq_true rfl), (Nat.le_of_ble_eq_true rfl)⟩ ⟨Nat.le_refl _, Nat.le_refl _⟩ (Nat.le_of_ble_eq_true rfl) (r_paint hB M g hg hv) (fun M5 h5 => (ex_iconst (v := nI 0) dX9_panes_8 rfl (ex_is1 dX9_panes_9 (Nat.le_of_ble_eq_true rfl) rfl (ex_iconst (v := nI 0) dX9_panes_10 rfl (ex_is2 dX9_panes_11 (Nat.le_of_ble_eq_true rfl) rfl ?_)))))))
  subst h5
  refine ex_for (I := fun k ls M' => (∃ o3, ls = [some (.ref B), some (.int (bor (fun k => decide (g.2.2.2.2.1.2.2 k = 4) && (wh g.1 g.2.1 (g.2.2.2.2.1.2.1 k)).isSome) g.2.2.2.2.1.2.1 k)), some (.int (nI k)), o3]) ∧ M' = lgt B g M) g.2.2.2.2.1.1 ?_ ?_ 0 _ _ (Nat.zero_le _) ⟨⟨none, rfl⟩, rfl⟩
  · intro k ls M' hk h ih
    obtain ⟨⟨o3, rfl⟩, rfl⟩ := h
    obtain ⟨l1, l2⟩ := (lgt_RM hg).2.2.2.2.2.2.2.1.2 k hk
    obtain ⟨v1, v2⟩ := hv.2.2.2.2.1.2 k hk
    have hneg := wI_neg (o := wh g.1 g.2.1 (g.2.2.2.2.1.2.1 k)) (fun i h => by have := wh_lt h; omega)
    refine (ex_il2 dX9_panes_12 (ex_al0 dX9_panes_13 (ex_getI dX9_panes_14 flX9_155 (md_sh hB) (ex_top ((lgt_RM hg).2.2.2.2.2.2.2.1.1) (ex_icmp_geN (tgt := 68) dX9_panes_17 rfl (by omega) (by omega) (fun c17 => (absurd c17 (by omega))) (fun c17 => (ex_al0 dX9_panes_20 (ex_getR dX9_panes_21 flX9_28 (md_sh hB) (md_r12 hB) (ex_iconst (v := nI 2) dX9_panes_24 rfl (ex_il2 dX9_panes_25 (ex_imulN dX9_panes_26 (ex_ildN dX9_panes_27 (md_a12 hB) (by omega) (by omega) (ex_top (l1) (ex_is3 dX9_panes_28 (Nat.le_of_ble_eq_true rfl) rfl (ex_il1 dX9_panes_29 (ex_al0 dX9_panes_30 (ex_getR dX9_panes_31 flX9_28 (md_sh hB) (md_r12 hB) (ex_iconst (v := nI 2) dX9_panes_34 rfl (ex_il2 dX9_panes_35 (ex_imulN dX9_panes_36 (ex_iconst (v := nI 1) dX9_panes_37 rfl (ex_iaddN dX9_panes_38 (ex_ildN dX9_panes_39 (md_a12 hB) (by omega) (by omega) (ex_top (l2) (ex_iconst (v := nI 4) dX9_panes_40 rfl (ex_icmp_neN (tgt := 59) dX9_panes_41 rfl (by omega) (by omega) (fun c41 => ?_) (fun c41 => ?_)))))))))))))))))))))))))))
    · refine (ex_iconst (v := nI 0) dX9_panes_59 rfl (ex_ior dX9_panes_60 (ex_top (bor_f (by simp [c41])) (ex_is1 dX9_panes_61 (Nat.le_of_ble_eq_true rfl) rfl (ex_inc2 dX9_panes_62 (Nat.le_of_ble_eq_true rfl) rfl (inc1 _) (ex_goto (tgt := 12) dX9_panes_65 rfl ?_))))))
      exact ih _ _ ⟨⟨_, rfl⟩, rfl⟩
    · refine (ex_al0 dX9_panes_44 (ex_getR dX9_panes_45 flX9_52 (md_sh hB) (md_r26 hB) (ex_il3 dX9_panes_48 (ex_ildN dX9_panes_49 (md_a26 hB) (by omega) (v1) (ex_top (lgt_w v1) (ex_if_lt (tgt := 59) dX9_panes_50 rfl (fun c50 => ?_) (fun c50 => ?_)))))))
      · refine (ex_iconst (v := nI 0) dX9_panes_59 rfl (ex_ior dX9_panes_60 (ex_top (bor_f (by simp [hneg.mp c50])) (ex_is1 dX9_panes_61 (Nat.le_of_ble_eq_true rfl) rfl (ex_inc2 dX9_panes_62 (Nat.le_of_ble_eq_true rfl) rfl (inc1 _) (ex_goto (tgt := 12) dX9_panes_65 rfl ?_))))))
        exact ih _ _ ⟨⟨_, rfl⟩, rfl⟩
      · have hsm : (wh g.1 g.2.1 (g.2.2.2.2.1.2.1 k)).isSome = true := by
          cases hq : wh g.1 g.2.1 (g.2.2.2.2.1.2.1 k)
          · exact absurd (hneg.mpr hq) c50
          · rfl
        refine (ex_iconst (v := nI 1) dX9_panes_53 rfl (ex_il3 dX9_panes_54 (ex_ishl dX9_panes_55 (ex_goto (tgt := 60) dX9_panes_56 rfl (ex_ior dX9_panes_60 (ex_top (bor_t (by simp [c41, hsm])) (ex_is1 dX9_panes_61 (Nat.le_of_ble_eq_true rfl) rfl (ex_inc2 dX9_panes_62 (Nat.le_of_ble_eq_true rfl) rfl (inc1 _) (ex_goto (tgt := 12) dX9_panes_65 rfl ?_)))))))))
        exact ih _ _ ⟨⟨_, rfl⟩, rfl⟩
  · intro ls M' h
    obtain ⟨⟨o3, rfl⟩, rfl⟩ := h
    refine (ex_il2 dX9_panes_12 (ex_al0 dX9_panes_13 (ex_getI dX9_panes_14 flX9_155 (md_sh hB) (ex_top ((lgt_RM hg).2.2.2.2.2.2.2.1.1) (ex_icmp_geN (tgt := 68) dX9_panes_17 rfl (by omega) (by omega) (fun c17 => (ex_il1 dX9_panes_68 (ex_SP1 dX9_panes_69 lkX9_218 ⟨(Nat.le_of_ble_eq_true rfl), (Nat.le_of_ble_eq_true rfl)⟩ ⟨Nat.le_refl _, Nat.le_refl _⟩ (Nat.le_of_ble_eq_true rfl) (m_bits _ _ _ _) (ex_ri dX9_panes_72 rfl rfl ?_)))) (fun c17 => (absurd (Nat.le_refl _) c17)))))))
    refine ⟨?_, lgt_RM hg, fun c hc => lgt_oc (Or.inl hc)⟩
    show nI _ = nI _
    congr 1
    refine cnt_congr 24 (fun s hs => ?_)
    rw [bt_bor (fun k hk => by have := (hv.2.2.2.2.1.2 k hk).1; omega) s (by omega)]
    cases hw : (wh g.1 g.2.1 s).isSome
    · rw [Bool.and_false]
      cases ha : anyb (fun k => (decide (g.2.2.2.2.1.2.2 k = 4) && (wh g.1 g.2.1 (g.2.2.2.2.1.2.1 k)).isSome) && decide (g.2.2.2.2.1.2.1 k = s)) g.2.2.2.2.1.1
      · rfl
      · obtain ⟨k, hk, h⟩ := anyb_iff.mp ha
        simp only [Bool.and_eq_true, decide_eq_true_eq] at h
        rw [h.2, hw] at h
        exact absurd h.1.2 (by decide)
    · rw [Bool.and_true]
      have e : ∀ p q : Bool, (p = true ↔ q = true) → p = q := fun p q h => by cases p <;> cases q <;> simp_all
      apply e
      rw [anyb_iff, anyb_iff]
      constructor
      · rintro ⟨k, hk, h⟩
        simp only [Bool.and_eq_true, decide_eq_true_eq] at h
        exact ⟨k, hk, by simp [h.1.1, h.2]⟩
      · rintro ⟨k, hk, h⟩
        simp only [Bool.and_eq_true, decide_eq_true_eq] at h
        exact ⟨k, hk, by simp [h.1, h.2, hw]⟩
theorem r_tenant {sh : Sh} {Mr : MR} {B : Nat} (hB : MD sh Mr B) (M : MM) (g : Sg) (hg : RM B M g) (hv : sgV g) (i w : Int32) : CtI mX9_tenant [.ref B, .int i, .int w] sh Mr M (PM B M (d_tenant g i w)) := by
  have h6 := hv.1.1.1
  refine ct_of (mi := mX9_tenant) (ls := [some (.ref B), some (.int i), some (.int w)]) rfl rfl (Nat.le_of_ble_eq_true rfl) rfl ?_
  refine (ex_al0 dX9_tenant_0 (ex_il1 dX9_tenant_1 (ex_VP1 dX9_tenant_2 lkX9_187 (md_sh hB) ⟨_, _, rfl⟩ ⟨(Nat.le_of_ble_eq_true rfl), (Nat.le_of_ble_eq_true rfl)⟩ ⟨Nat.le_refl _, Nat.le_refl _⟩ (Nat.le_of_ble_eq_true rfl) (m_isT hB M g hg i) (ex_ifB_eq (tgt := 18) dX9_tenant_5 rfl (fun c5 => ?_) (fun c5 => ?_)))))
  · refine (ex_iconst (v := (-1)) dX9_tenant_18 rfl (ex_ri dX9_tenant_19 rfl rfl (⟨by simp [d_tenant, c5], hg, fun _ _ => rfl⟩)))
  · refine (ex_il2 dX9_tenant_8 (ex_iconst (v := nI 0) dX9_tenant_9 rfl (ex_bipush (v := nI 6) dX9_tenant_10 rfl (ex_SP3 dX9_tenant_12 lkX9_88 ⟨(Nat.le_of_ble_eq_true rfl), (Nat.le_of_ble_eq_true rfl)⟩ ⟨Nat.le_refl _, Nat.le_refl _⟩ (Nat.le_of_ble_eq_true rfl) (m_in _ _ _ _ _ _) (ex_ifB_ne (tgt := 20) dX9_tenant_15 rfl (fun c15 => ?_) (fun c15 => ?_))))))
    · obtain ⟨i, hi, rfl⟩ := isT_nat hv c5
      obtain ⟨w, hw, rfl⟩ := inB_nat (by decide) c15
      have hci : cN (nI i) = i := cN_nI (by omega)
      have hcw : cN (nI w) = w := cN_nI (by omega)
      have hA := asIs_RM hg
      have s1 := hA.2.2.2.2.1.2.2 i hi
      simp only [Nat.zero_add] at s1
      obtain ⟨e1, e2, e3, e4, e5⟩ := hA.1.2.2 i hi
      have hd : (d_tenant g (nI i) (nI w)).1 = tnV g i w := by unfold d_tenant; rw [c5, c15, hci, hcw]; rfl
      refine (ex_al0 dX9_tenant_20 (ex_VV0 dX9_tenant_21 lkX9_190 (md_sh hB) ⟨_, _, rfl⟩ ⟨(Nat.le_of_ble_eq_true rfl), (Nat.le_of_ble_eq_true rfl)⟩ ⟨Nat.le_refl _, Nat.le_refl _⟩ (Nat.le_of_ble_eq_true rfl) (r_asItIs hB M g hg) (fun M21 h21 => (ex_il2 dX9_tenant_24 ?_))))
      subst h21
      have fin : ∀ v, v = (d_tenant g (nI i) (nI w)).1 → PM B M (d_tenant g (nI i) (nI w)) v (asIs B g.1.1.1 M) := fun v h => ⟨h, hA, fun c hc => asIs_oc (by omega) (by omega)⟩
      rw [hd] at fin
      rcases (show w = 0 ∨ w = 1 ∨ w = 2 ∨ w = 3 ∨ w = 4 ∨ w = 5 ∨ w = 6 by omega) with rfl | rfl | rfl | rfl | rfl | rfl | rfl
      · refine ex_tableIn (tgt := 68) dX9_tenant_25 (by decide) (by decide) rfl rfl ?_
        refine (ex_al0 dX9_tenant_68 (ex_getR dX9_tenant_69 flX9_7 (md_sh hB) (md_r1 hB) (ex_iconst (v := nI 3) dX9_tenant_72 rfl (ex_il1 dX9_tenant_73 (ex_imulN dX9_tenant_74 (ex_ildN dX9_tenant_75 (md_a1 hB) (by omega) (by omega) (ex_ri dX9_tenant_76 rfl rfl (fin _ e1))))))))
      · refine ex_tableIn (tgt := 77) dX9_tenant_25 (by decide) (by decide) rfl rfl ?_
        refine (ex_al0 dX9_tenant_77 (ex_getR dX9_tenant_78 flX9_19 (md_sh hB) (md_r6 hB) (ex_bipush (v := nI 8) dX9_tenant_81 rfl (ex_il1 dX9_tenant_83 (ex_iaddN dX9_tenant_84 (ex_ildN dX9_tenant_85 (md_a6 hB) (by omega) (by omega) (ex_ri dX9_tenant_86 rfl rfl (fin _ s1.2.1))))))))
      · refine ex_tableIn (tgt := 87) dX9_tenant_25 (by decide) (by decide) rfl rfl ?_
        refine (ex_al0 dX9_tenant_87 (ex_getR dX9_tenant_88 flX9_19 (md_sh hB) (md_r6 hB) (ex_bipush (v := nI 14) dX9_tenant_91 rfl (ex_il1 dX9_tenant_93 (ex_iaddN dX9_tenant_94 (ex_ildN dX9_tenant_95 (md_a6 hB) (by omega) (by omega) (ex_ri dX9_tenant_96 rfl rfl (fin _ s1.2.2))))))))
      · refine ex_tableIn (tgt := 123) dX9_tenant_25 (by decide) (by decide) rfl rfl ?_
        refine (ex_al0 dX9_tenant_123 (ex_getR dX9_tenant_124 flX9_7 (md_sh hB) (md_r1 hB) (ex_iconst (v := nI 3) dX9_tenant_127 rfl (ex_il1 dX9_tenant_128 (ex_imulN dX9_tenant_129 (ex_il2 dX9_tenant_130 (ex_iaddN dX9_tenant_131 (ex_iconst (v := nI 2) dX9_tenant_132 rfl (ex_isubN dX9_tenant_133 (by omega) (ex_ildN dX9_tenant_134 (md_a1 hB) (by omega) (by omega) (ex_ri dX9_tenant_135 rfl rfl ?_)))))))))))
        exact fin _ (by rw [show 3 * i + 3 - 2 = 3 * i + 1 by omega]; exact e3)
      · refine ex_tableIn (tgt := 123) dX9_tenant_25 (by decide) (by decide) rfl rfl ?_
        refine (ex_al0 dX9_tenant_123 (ex_getR dX9_tenant_124 flX9_7 (md_sh hB) (md_r1 hB) (ex_iconst (v := nI 3) dX9_tenant_127 rfl (ex_il1 dX9_tenant_128 (ex_imulN dX9_tenant_129 (ex_il2 dX9_tenant_130 (ex_iaddN dX9_tenant_131 (ex_iconst (v := nI 2) dX9_tenant_132 rfl (ex_isubN dX9_tenant_133 (by omega) (ex_ildN dX9_tenant_134 (md_a1 hB) (by omega) (by omega) (ex_ri dX9_tenant_135 rfl rfl ?_)))))))))))
        exact fin _ (by rw [show 3 * i + 4 - 2 = 3 * i + 2 by omega]; exact e4)
      · refine ex_tableIn (tgt := 97) dX9_tenant_25 (by decide) (by decide) rfl rfl ?_
        refine (ex_al0 dX9_tenant_97 (ex_getR dX9_tenant_98 flX9_19 (md_sh hB) (md_r6 hB) (ex_iconst (v := nI 2) dX9_tenant_101 rfl (ex_il1 dX9_tenant_102 (ex_iaddN dX9_tenant_103 (ex_ildN dX9_tenant_104 (md_a6 hB) (by omega) (by omega) (ex_ri dX9_tenant_105 rfl rfl (fin _ s1.1))))))))
      · refine ex_tableIn (tgt := 106) dX9_tenant_25 (by decide) (by decide) rfl rfl ?_
        have hl := asIs_lit hg hi
        refine (ex_al0 dX9_tenant_106 (ex_getI dX9_tenant_107 flX9_161 (md_sh hB) (ex_il1 dX9_tenant_110 (ex_SP2 dX9_tenant_111 lkX9_167 ⟨(Nat.le_of_ble_eq_true rfl), (Nat.le_of_ble_eq_true rfl)⟩ ⟨Nat.le_refl _, Nat.le_refl _⟩ (Nat.le_of_ble_eq_true rfl) (m_has _ i (by omega) _ _ _) (ex_ifB_eq (tgt := 121) dX9_tenant_114 rfl (fun c114 => ?_) (fun c114 => ?_))))))
        · refine (ex_iconst (v := nI 0) dX9_tenant_121 rfl (ex_ri dX9_tenant_122 rfl rfl (fin _ (by show _ = bI (!lit g.1 g.2.1 i); rw [← hl, c114]; rfl))))
        · refine (ex_iconst (v := nI 1) dX9_tenant_117 rfl (ex_goto (tgt := 122) dX9_tenant_118 rfl (ex_ri dX9_tenant_122 rfl rfl (fin _ (by show _ = bI (!lit g.1 g.2.1 i); rw [← hl, c114]; rfl)))))
    · refine (ex_iconst (v := (-1)) dX9_tenant_18 rfl (ex_ri dX9_tenant_19 rfl rfl (⟨by simp [d_tenant, c15], hg, fun _ _ => rfl⟩)))
theorem r_count {sh : Sh} {Mr : MR} {B : Nat} (hB : MD sh Mr B) (M : MM) (g : Sg) (hg : RM B M g) (hv : sgV g) (w : Int32) : CtI mX9_count [.ref B, .int w] sh Mr M (PM B M (d_count g w)) := by
  have h6 := hv.1.1.1
  have hA := asIs_RM hg
  refine ct_of (mi := mX9_count) (ls := [some (.ref B), some (.int w)]) rfl rfl (Nat.le_of_ble_eq_true rfl) rfl ?_
  refine (ex_al0 dX9_count_0 (ex_VV0 dX9_count_1 lkX9_190 (md_sh hB) ⟨_, _, rfl⟩ ⟨(Nat.le_of_ble_eq_true rfl), (Nat.le_of_ble_eq_true rfl)⟩ ⟨Nat.le_refl _, Nat.le_refl _⟩ (Nat.le_of_ble_eq_true rfl) (r_asItIs hB M g hg) (fun M1 h1 => (ex_il1 dX9_count_4 ?_))))
  subst h1
  have fin : ∀ v, v = (d_count g w).1 → PM B M (d_count g w) v (asIs B g.1.1.1 M) := fun v h => ⟨h, hA, fun c hc => asIs_oc (by omega) (by omega)⟩
  cases hin : inB w (nI 0) (nI 8)
  · refine ex_tableOut (tgt := 111) dX9_count_5 ?_ rfl ?_
    · unfold inB at hin
      simp only [i_le_iff] at hin
      rw [show (nI 0).toInt = 0 by decide, show (nI 8).toInt = 8 by decide] at hin
      simp at hin
      omega
    · refine (ex_iconst (v := (-1)) dX9_count_111 rfl (ex_ri dX9_count_112 rfl rfl (fin _ (by simp [d_count, hin]))))
  · obtain ⟨w, hw, rfl⟩ := inB_nat (by decide) hin
    have hcw : cN (nI w) = w := cN_nI (by omega)
    have hd : (d_count g (nI w)).1 = ctV g w := by unfold d_count; rw [hin, hcw]; rfl
    rw [hd] at fin
    rcases (show w = 0 ∨ w = 1 ∨ w = 2 ∨ w = 3 ∨ w = 4 ∨ w = 5 ∨ w = 6 ∨ w = 7 ∨ w = 8 by omega) with rfl | rfl | rfl | rfl | rfl | rfl | rfl | rfl | rfl
    · refine ex_tableIn (tgt := 56) dX9_count_5 (by decide) (by decide) rfl rfl ?_
      refine (ex_al0 dX9_count_56 (ex_getI dX9_count_57 flX9_85 (md_sh hB) (ex_ri dX9_count_60 rfl rfl (fin _ hA.1.1))))
    · refine ex_tableIn (tgt := 61) dX9_count_5 (by decide) (by decide) rfl rfl ?_
      refine (ex_al0 dX9_count_61 (ex_getI dX9_count_62 flX9_92 (md_sh hB) (ex_ri dX9_count_65 rfl rfl (fin _ hA.2.1.1))))
    · refine ex_tableIn (tgt := 66) dX9_count_5 (by decide) (by decide) rfl rfl ?_
      refine (ex_al0 dX9_count_66 (ex_getR dX9_count_67 flX9_19 (md_sh hB) (md_r6 hB) (ex_iconst (v := nI 0) dX9_count_70 rfl (ex_ildN dX9_count_71 (md_a6 hB) (by omega) (by omega) (ex_ri dX9_count_72 rfl rfl (fin _ hA.2.2.2.2.1.1))))))
    · refine ex_tableIn (tgt := 73) dX9_count_5 (by decide) (by decide) rfl rfl ?_
      have e := hA.2.2.2.2.1.2.1
      rw [Nat.zero_add] at e
      refine (ex_al0 dX9_count_73 (ex_getR dX9_count_74 flX9_19 (md_sh hB) (md_r6 hB) (ex_iconst (v := nI 1) dX9_count_77 rfl (ex_ildN dX9_count_78 (md_a6 hB) (by omega) (by omega) (ex_top (e) (ex_SP1 dX9_count_79 lkX9_218 ⟨(Nat.le_of_ble_eq_true rfl), (Nat.le_of_ble_eq_true rfl)⟩ ⟨Nat.le_refl _, Nat.le_refl _⟩ (Nat.le_of_ble_eq_true rfl) (m_bits _ _ _ _) (ex_ri dX9_count_82 rfl rfl (fin _ rfl))))))))
    · refine ex_tableIn (tgt := 83) dX9_count_5 (by decide) (by decide) rfl rfl ?_
      refine (ex_al0 dX9_count_83 (ex_getI dX9_count_84 flX9_161 (md_sh hB) (ex_top (asIs_out) (ex_SP1 dX9_count_87 lkX9_218 ⟨(Nat.le_of_ble_eq_true rfl), (Nat.le_of_ble_eq_true rfl)⟩ ⟨Nat.le_refl _, Nat.le_refl _⟩ (Nat.le_of_ble_eq_true rfl) (m_bits _ _ _ _) (ex_ri dX9_count_90 rfl rfl (fin _ ?_))))))
      rw [cnt_bset (by omega) (by omega)]
      show nI _ = nI _
      congr 1
      refine cnt_congr _ (fun i hi => ?_)
      have s1 := (hg.2.2.2.2.1.2.2 i hi).1
      rw [Nat.zero_add] at s1
      unfold lit pay
      show (!decide (M (B + 4) (2 + i) ≤ M B 5)) = _
      rw [s1, hg.2.2.2.1]
    · refine ex_tableIn (tgt := 91) dX9_count_5 (by decide) (by decide) rfl rfl ?_
      refine (ex_al0 dX9_count_91 (ex_getI dX9_count_92 flX9_155 (md_sh hB) (ex_ri dX9_count_95 rfl rfl (fin _ hA.2.2.2.2.2.2.2.1.1))))
    · refine ex_tableIn (tgt := 96) dX9_count_5 (by decide) (by decide) rfl rfl ?_
      refine (ex_al0 dX9_count_96 (ex_getI dX9_count_97 flX9_149 (md_sh hB) (ex_ri dX9_count_100 rfl rfl (fin _ hA.2.2.2.2.2.1.1))))
    · refine ex_tableIn (tgt := 101) dX9_count_5 (by decide) (by decide) rfl rfl ?_
      refine (ex_al0 dX9_count_101 (ex_getI dX9_count_102 flX9_152 (md_sh hB) (ex_ri dX9_count_105 rfl rfl (fin _ hA.2.2.2.2.2.2.1.1))))
    · refine ex_tableIn (tgt := 106) dX9_count_5 (by decide) (by decide) rfl rfl ?_
      refine (ex_al0 dX9_count_106 (ex_getI dX9_count_107 flX9_95 (md_sh hB) (ex_ri dX9_count_110 rfl rfl (fin _ hA.2.2.2.2.2.2.2.2.1))))
