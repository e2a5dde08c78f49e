/-! the reference: item, fault, lay -/
theorem m_readItem {sh : Sh} {Mr : MR} {B : Nat} (hB : MD sh Mr B) (M : MM) (t : Tx) (ht : TxM B M t) (r : Rd) (hr : RdM B M r) (hv : rdV r) (a : Nat) (h15 : M B 15 = nI a) (ha : a ≤ 900) : CtI mX9_readItem [.ref B] sh Mr M (QIt B M (itm t a r)) := by
  refine ct_of (mi := mX9_readItem) (ls := [some (.ref B), none]) rfl rfl (Nat.le_of_ble_eq_true rfl) rfl ?_
  refine (ex_al0 dX9_readItem_0 (ex_al0 dX9_readItem_1 (ex_getI dX9_readItem_2 flX9_98 (md_sh hB) (ex_top (h15) (ex_VP1 dX9_readItem_5 lkX9_101 (md_sh hB) ⟨_, _, rfl⟩ ⟨(Nat.le_of_ble_eq_true rfl), (Nat.le_of_ble_eq_true rfl)⟩ ⟨Nat.le_refl _, Nat.le_refl _⟩ (Nat.le_of_ble_eq_true rfl) (m_lt hB M t ht a (by omega)) (ex_is1 dX9_readItem_8 (Nat.le_of_ble_eq_true rfl) rfl (ex_al0 dX9_readItem_9 (ex_dupR dX9_readItem_10 (ex_getI dX9_readItem_11 flX9_98 (md_sh hB) (ex_top (h15) (ex_iconst (v := nI 1) dX9_readItem_14 rfl (ex_iaddN dX9_readItem_15 (ex_putI dX9_readItem_16 (fpX9_98 _) (md_sh hB) (ex_il1 dX9_readItem_19 ?_))))))))))))))
  have hf1 : FrR B M (wr M B 15 (nI (a + 1))) := FrR.rf.wr (by omega)
  have ht1 : TxM B (wr M B 15 (nI (a + 1))) t := ht.of (wr_oi (by omega)) (wr_oc (by omega))
  have hr1 : RdM B (wr M B 15 (nI (a + 1))) r := hr.of (fun k hk => wr_oi (by omega)) (fun c h1 h2 => wr_oc (by omega))
  have h151 : wr M B 15 (nI (a + 1)) B 15 = nI (a + 1) := wr_s
  generalize wr M B 15 (nI (a + 1)) = M1 at hf1 ht1 hr1 h151 ⊢
  have mono : ∀ o v M', QIt B M1 o v M' → QIt B M o v M' := fun o v M' h => ⟨hf1.tr h.1, h.2⟩
  generalize hx : (if a < t.1 then t.2 a else (-1 : Int32)) = x
  have iff : ∀ s, (s = 44 ∨ s = 59 ∨ s = 116 ∨ s = 115 ∨ s = 102 ∨ s = 98) → (x = nI s ↔ ltr t a = nI s) := fun s hs => by rw [← hx]; exact lt_eq (Or.inl rfl) hs
  have hps : ((#[(98, 59), (102, 54), (115, 49), (116, 44)] : Array (Int × Int)).toList.zip ((#[(98, 59), (102, 54), (115, 49), (116, 44)] : Array (Int × Int)).toList.drop 1)).all (fun (a, next) => a.1 < next.1) = true := by decide
  by_cases e1 : x = nI 116
  · subst e1
    have hit : itm t a r = tk (rdK t 5 (fun _ => 0) 0 (a + 1)) (okT r) (addT r) := by unfold itm; rw [if_pos ((iff 116 (by omega)).mp rfl)]
    rw [hit]
    refine ex_lookup (tgt := 64) (off := 44) dX9_readItem_20 hps (by decide) rfl ?_
    refine (ex_al0 dX9_readItem_64 (ex_VI0 dX9_readItem_65 lkX9_122 (md_sh hB) ⟨_, _, rfl⟩ ⟨(Nat.le_of_ble_eq_true rfl), (Nat.le_of_ble_eq_true rfl)⟩ ⟨Nat.le_refl _, Nat.le_refl _⟩ (Nat.le_of_ble_eq_true rfl) (m_readTenantOf hB M1 t ht1 r hr1 hv (a + 1) h151 (by omega)) (fun v65 M65 h65 => ?_)))
    have h9 := mono _ _ _ h65
    obtain ⟨q1, rfl, q3⟩ := h65
    refine (ex_rb dX9_readItem_68 rfl (h9))
  · by_cases e2 : x = nI 115
    · subst e2
      have hit : itm t a r = tk (rdK t 2 (fun _ => 0) 0 (a + 1)) (okS r) (addS r) := by unfold itm; rw [if_neg (fun h => e1 ((iff 116 (by omega)).mpr h)), if_pos ((iff 115 (by omega)).mp rfl)]
      rw [hit]
      refine ex_lookup (tgt := 69) (off := 49) dX9_readItem_20 hps (by decide) rfl ?_
      refine (ex_al0 dX9_readItem_69 (ex_VI0 dX9_readItem_70 lkX9_126 (md_sh hB) ⟨_, _, rfl⟩ ⟨(Nat.le_of_ble_eq_true rfl), (Nat.le_of_ble_eq_true rfl)⟩ ⟨Nat.le_refl _, Nat.le_refl _⟩ (Nat.le_of_ble_eq_true rfl) (m_readShipOf hB M1 t ht1 r hr1 hv (a + 1) h151 (by omega)) (fun v70 M70 h70 => ?_)))
      have h9 := mono _ _ _ h70
      obtain ⟨q1, rfl, q3⟩ := h70
      refine (ex_rb dX9_readItem_73 rfl (h9))
    · by_cases e3 : x = nI 102
      · subst e3
        have hit : itm t a r = tk (rdK t 3 (fun _ => 0) 0 (a + 1)) okF (setF r) := by unfold itm; rw [if_neg (fun h => e1 ((iff 116 (by omega)).mpr h)), if_neg (fun h => e2 ((iff 115 (by omega)).mpr h)), if_pos ((iff 102 (by omega)).mp rfl)]
        rw [hit]
        refine ex_lookup (tgt := 74) (off := 54) dX9_readItem_20 hps (by decide) rfl ?_
        refine (ex_al0 dX9_readItem_74 (ex_VI0 dX9_readItem_75 lkX9_129 (md_sh hB) ⟨_, _, rfl⟩ ⟨(Nat.le_of_ble_eq_true rfl), (Nat.le_of_ble_eq_true rfl)⟩ ⟨Nat.le_refl _, Nat.le_refl _⟩ (Nat.le_of_ble_eq_true rfl) (m_readFogOf hB M1 t ht1 r hr1 (a + 1) h151 (by omega)) (fun v75 M75 h75 => ?_)))
        have h9 := mono _ _ _ h75
        obtain ⟨q1, rfl, q3⟩ := h75
        refine (ex_rb dX9_readItem_78 rfl (h9))
      · by_cases e4 : x = nI 98
        · subst e4
          have hit : itm t a r = tk (rdK t 1 (fun _ => 0) 0 (a + 1)) okB (setB r) := by unfold itm; rw [if_neg (fun h => e1 ((iff 116 (by omega)).mpr h)), if_neg (fun h => e2 ((iff 115 (by omega)).mpr h)), if_neg (fun h => e3 ((iff 102 (by omega)).mpr h)), if_pos ((iff 98 (by omega)).mp rfl)]
          rw [hit]
          refine ex_lookup (tgt := 79) (off := 59) dX9_readItem_20 hps (by decide) rfl ?_
          refine (ex_al0 dX9_readItem_79 (ex_VI0 dX9_readItem_80 lkX9_132 (md_sh hB) ⟨_, _, rfl⟩ ⟨(Nat.le_of_ble_eq_true rfl), (Nat.le_of_ble_eq_true rfl)⟩ ⟨Nat.le_refl _, Nat.le_refl _⟩ (Nat.le_of_ble_eq_true rfl) (m_readMostOf hB M1 t ht1 r hr1 (a + 1) h151 (by omega)) (fun v80 M80 h80 => ?_)))
          have h9 := mono _ _ _ h80
          obtain ⟨q1, rfl, q3⟩ := h80
          refine (ex_rb dX9_readItem_83 rfl (h9))
        · have hit : itm t a r = none := by unfold itm; rw [if_neg (fun h => e1 ((iff 116 (by omega)).mpr h)), if_neg (fun h => e2 ((iff 115 (by omega)).mpr h)), if_neg (fun h => e3 ((iff 102 (by omega)).mpr h)), if_neg (fun h => e4 ((iff 98 (by omega)).mpr h))]
          rw [hit]
          refine ex_lookup (tgt := 84) (off := 64) dX9_readItem_20 hps ?_ rfl ?_
          · show Op.lookupswitch.offset [(98, 59), (102, 54), (115, 49), (116, 44)] 64 x.toInt = 64
            rw [lv_osw e4 (by decide), lv_osw e3 (by decide), lv_osw e2 (by decide), lv_osw e1 (by decide)]
            rfl
          · refine (ex_iconst (v := nI 0) dX9_readItem_84 rfl (ex_ri dX9_readItem_85 rfl rfl (⟨hf1, rfl, fun q hq => by cases hq⟩)))
theorem m_fault {sh : Sh} {Mr : MR} {B : Nat} (hB : MD sh Mr B) (M : MM) (t : Tx) (ht : TxM B M t) : CtI mX9_fault [.ref B] sh Mr M (fun v M' => FrR B M M' ∧ v = (prs t 200 0 rd0).1 ∧ (v = -4 → RdM B M' (prs t 200 0 rd0).2)) := by
  have h200 := ht.2.1
  refine ct_of (mi := mX9_fault) (ls := [some (.ref B), none]) rfl rfl (Nat.le_of_ble_eq_true rfl) rfl ?_
  refine (ex_al0 dX9_fault_0 (ex_iconst (v := nI 0) dX9_fault_1 rfl (ex_putI dX9_fault_2 (fpX9_98 _) (md_sh hB) (ex_al0 dX9_fault_5 (ex_VV0 dX9_fault_6 lkX9_64 (md_sh hB) ⟨_, _, rfl⟩ ⟨(Nat.le_of_ble_eq_true rfl), (Nat.le_of_ble_eq_true rfl)⟩ ⟨Nat.le_refl _, Nat.le_refl _⟩ (Nat.le_of_ble_eq_true rfl) (m_clearTold hB _) (fun M6 h6 => ?_))))))
  obtain ⟨hr0, hf0, h150⟩ := h6
  have hf : FrR B M M6 := (FrR.rf.wr (by omega)).tr hf0
  rw [wr_s] at h150
  refine ex_down (I := fun k ls M' => ∃ a r o1, t.1 ≤ a + k ∧ a ≤ 200 ∧ ls = [some (.ref B), o1] ∧ FrR B M M' ∧ M' B 15 = nI a ∧ RdM B M' r ∧ rdV r ∧ prs t k a r = prs t 200 0 rd0) ?_ ?_ 200 _ _ ⟨0, rd0, none, by omega, by omega, rfl, hf, h150, hr0, rd0_V, rfl⟩
  · intro k ls M1 h ih
    obtain ⟨a, r, o1, hk, ha, rfl, hfr, h15, hr, hv, hp⟩ := h
    have ht1 : TxM B M1 t := ht.of (hfr.2 14 (by omega) (by omega) (by omega) (by omega)) (hfr.1 _ (by omega))
    have hp' : prs t (k + 1) a r = if a < t.1 then (match itm t a r with | none => (nI a, r) | some q => prs t k q.2 q.1) else (-4, r) := rfl
    rw [hp'] at hp
    by_cases hlt : a < t.1
    · rw [if_pos hlt] at hp
      refine (ex_al0 dX9_fault_9 (ex_getI dX9_fault_10 flX9_98 (md_sh hB) (ex_top (h15) (ex_al0 dX9_fault_13 (ex_getI dX9_fault_14 flX9_95 (md_sh hB) (ex_top (ht1.1) (ex_icmp_geN (tgt := 37) dX9_fault_17 rfl (by omega) (by omega) (fun c17 => (absurd c17 (by omega))) (fun c17 => (ex_al0 dX9_fault_20 (ex_getI dX9_fault_21 flX9_98 (md_sh hB) (ex_top (h15) (ex_is1 dX9_fault_24 (Nat.le_of_ble_eq_true rfl) rfl (ex_al0 dX9_fault_25 (ex_VI0 dX9_fault_26 lkX9_135 (md_sh hB) ⟨_, _, rfl⟩ ⟨(Nat.le_of_ble_eq_true rfl), (Nat.le_of_ble_eq_true rfl)⟩ ⟨Nat.le_refl _, Nat.le_refl _⟩ (Nat.le_of_ble_eq_true rfl) (m_readItem hB M1 t ht1 r hr hv a h15 (by omega)) (fun v26 M26 h26 => ?_)))))))))))))))
      obtain ⟨q1, rfl, q3⟩ := h26
      cases hi : itm t a r with
      | none =>
        rw [hi] at hp
        refine (ex_ifB_ne (tgt := 34) dX9_fault_29 rfl (fun c29 => (absurd c29 (by decide))) (fun c29 => (ex_il1 dX9_fault_32 (ex_ri dX9_fault_33 rfl rfl ?_))))
        exact ⟨hfr.tr q1, by rw [← hp], fun e => absurd e (nI_ne4 (by omega))⟩
      | some q =>
        rw [hi] at hp
        obtain ⟨q4, q5⟩ := q3 q hi
        obtain ⟨l1, l2⟩ := itm_lt hi
        refine (ex_ifB_ne (tgt := 34) dX9_fault_29 rfl (fun c29 => (ex_goto (tgt := 9) dX9_fault_34 rfl ?_)) (fun c29 => (absurd c29 (by simp))))
        exact ih _ _ ⟨q.2, q.1, _, by omega, by omega, rfl, hfr.tr q1, q5, q4, itm_V hi hv, hp⟩
    · rw [if_neg hlt] at hp
      refine (ex_al0 dX9_fault_9 (ex_getI dX9_fault_10 flX9_98 (md_sh hB) (ex_top (h15) (ex_al0 dX9_fault_13 (ex_getI dX9_fault_14 flX9_95 (md_sh hB) (ex_top (ht1.1) (ex_icmp_geN (tgt := 37) dX9_fault_17 rfl (by omega) (by omega) (fun c17 => (ex_bipush (v := (-4)) dX9_fault_37 rfl (ex_ri dX9_fault_39 rfl rfl (⟨hfr, by rw [← hp], fun _ => by rw [← hp]; exact hr⟩)))) (fun c17 => (absurd (by omega) c17)))))))))
  · intro ls M1 h
    obtain ⟨a, r, o1, hk, ha, rfl, hfr, h15, hr, hv, hp⟩ := h
    have ht1 : TxM B M1 t := ht.of (hfr.2 14 (by omega) (by omega) (by omega) (by omega)) (hfr.1 _ (by omega))
    have hp' : prs t 0 a r = (-4, r) := rfl
    rw [hp'] at hp
    refine (ex_al0 dX9_fault_9 (ex_getI dX9_fault_10 flX9_98 (md_sh hB) (ex_top (h15) (ex_al0 dX9_fault_13 (ex_getI dX9_fault_14 flX9_95 (md_sh hB) (ex_top (ht1.1) (ex_icmp_geN (tgt := 37) dX9_fault_17 rfl (by omega) (by omega) (fun c17 => (ex_bipush (v := (-4)) dX9_fault_37 rfl (ex_ri dX9_fault_39 rfl rfl (⟨hfr, by rw [← hp], fun _ => by rw [← hp]; exact hr⟩)))) (fun c17 => (absurd (by omega) c17)))))))))
theorem RM.fr {B : Nat} {M M' : MM} {g : Sg} (h : RM B M g) (hf : FrR B M M') : RM B M' g := h.of (fun k hk => hf.2 k (by omega) (by omega) (by omega) (by omega)) (fun c h1 h2 => hf.1 c (by omega))
theorem RM.txM {B : Nat} {M : MM} {g : Sg} (h : RM B M g) (hv : sgV g) : TxM B M g.2.2.2.2.2 := ⟨h.2.2.2.2.2.2.2.2.1, hv.2.2.2.2.2.1, h.2.2.2.2.2.2.2.2.2⟩
theorem r_fault {sh : Sh} {Mr : MR} {B : Nat} (hB : MD sh Mr B) (M : MM) (g : Sg) (hg : RM B M g) (hv : sgV g) : CtI mX9_fault [.ref B] sh Mr M (fun v M' => PM B M (d_fault g) v M' ∧ FrR B M M' ∧ (v = -4 → RdM B M' (prs g.2.2.2.2.2 200 0 rd0).2)) := by
  have h := m_fault (Mr := Mr) hB M g.2.2.2.2.2 (hg.txM hv)
  have e : (fun v M' => FrR B M M' ∧ v = (prs g.2.2.2.2.2 200 0 rd0).1 ∧ (v = -4 → RdM B M' (prs g.2.2.2.2.2 200 0 rd0).2)) = (fun v M' => PM B M (d_fault g) v M' ∧ FrR B M M' ∧ (v = -4 → RdM B M' (prs g.2.2.2.2.2 200 0 rd0).2)) := by
    funext v M'
    apply propext
    constructor
    · rintro ⟨a, b, c⟩
      exact ⟨⟨b, hg.fr a, fun c hc => a.1 c (Or.inl hc)⟩, a, c⟩
    · rintro ⟨⟨a, b, c⟩, d, e⟩
      exact ⟨d, a, e⟩
  rw [e] at h
  exact h
theorem m_settles {sh : Sh} {Mr : MR} {B : Nat} (hB : MD sh Mr B) (M : MM) (r : Rd) (hr : RdM B M r) (hv : rdV r) (u k : Nat → St) (l : (Nat → Nat) × (Nat → Nat)) (t : Tx) (ht : TxM B M t) : CtV mX9_settles [.ref B] sh Mr M (fun M' => RM B M' (r.1, st0 r, (0, u), (0, k), (0, l), t) ∧ ∀ c, c < B → M' c = M c) := by
  obtain ⟨⟨a1, a2⟩, ⟨b1, b2⟩, c1, d1, e1, e2⟩ := id hr
  have h6 := hv.1.1
  have h5 := hv.2.1.1
  refine ct_of (mi := mX9_settles) (ls := [some (.ref B)]) rfl rfl (Nat.le_of_ble_eq_true rfl) rfl ?_
  refine (ex_al0 dX9_settles_0 (ex_al0 dX9_settles_1 (ex_getI dX9_settles_2 flX9_78 (md_sh hB) (ex_top (a1) (ex_putI dX9_settles_5 (fpX9_85 _) (md_sh hB) (ex_al0 dX9_settles_8 (ex_al0 dX9_settles_9 (ex_getI dX9_settles_10 flX9_82 (md_sh hB) (ex_top (y := (nI r.1.2.1.1)) (by rw [wr_oi (by omega)]; exact b1) (ex_putI dX9_settles_13 (fpX9_92 _) (md_sh hB) (ex_al0 dX9_settles_16 (ex_al0 dX9_settles_17 (ex_getI dX9_settles_18 flX9_113 (md_sh hB) (ex_top (y := (r.1.2.2.2)) (by rw [wr_oi (by omega), wr_oi (by omega)]; exact d1) (ex_putI dX9_settles_21 (fpX9_142 _) (md_sh hB) ?_)))))))))))))))
  generalize hM1 : wr (wr (wr M B 0 (nI r.1.1.1)) B 2 (nI r.1.2.1.1)) B 5 r.1.2.2.2 = M1
  have hc1 : ∀ c, c ≠ B → M1 c = M c := fun c hc => by rw [← hM1, wr_oc hc, wr_oc hc, wr_oc hc]
  have hB0 : M1 B 0 = nI r.1.1.1 := by rw [← hM1, wr_oi (by omega), wr_oi (by omega), wr_s]
  have hB2 : M1 B 2 = nI r.1.2.1.1 := by rw [← hM1, wr_oi (by omega), wr_s]
  have hB5 : M1 B 5 = r.1.2.2.2 := by rw [← hM1, wr_s]
  have hB14 : M1 B 14 = M B 14 := by rw [← hM1, wr_oi (by omega), wr_oi (by omega), wr_oi (by omega)]
  clear hM1
  refine (ex_al0 dX9_settles_24 (ex_getR dX9_settles_25 flX9_7 (md_sh hB) (md_r1 hB) (ex_iconst (v := nI 0) dX9_settles_28 rfl (ex_al0 dX9_settles_29 (ex_getR dX9_settles_30 flX9_37 (md_sh hB) (md_r18 hB) (ex_bipush (v := nI 18) dX9_settles_33 rfl (ex_SV4 dX9_settles_35 lkX9_145 ⟨(Nat.le_of_ble_eq_true rfl), (Nat.le_of_ble_eq_true rfl)⟩ ⟨Nat.le_refl _, Nat.le_refl _⟩ (Nat.le_of_ble_eq_true rfl) (m_put (B + 1) (B + 10) 18 18 0 18 (md_a1 hB) (md_a18 hB) (by omega) (by omega) (by omega) (by omega) (by omega) _) (fun M35 h35 => ?_))))))))
  subst h35
  refine (ex_al0 dX9_settles_38 (ex_getR dX9_settles_39 flX9_13 (md_sh hB) (md_r3 hB) (ex_iconst (v := nI 0) dX9_settles_42 rfl (ex_al0 dX9_settles_43 (ex_getR dX9_settles_44 flX9_40 (md_sh hB) (md_r20 hB) (ex_bipush (v := nI 10) dX9_settles_47 rfl (ex_SV4 dX9_settles_49 lkX9_145 ⟨(Nat.le_of_ble_eq_true rfl), (Nat.le_of_ble_eq_true rfl)⟩ ⟨Nat.le_refl _, Nat.le_refl _⟩ (Nat.le_of_ble_eq_true rfl) (m_put (B + 2) (B + 11) 10 10 0 10 (md_a3 hB) (md_a20 hB) (by omega) (by omega) (by omega) (by omega) (by omega) _) (fun M49 h49 => ?_))))))))
  subst h49
  refine (ex_al0 dX9_settles_52 (ex_getR dX9_settles_53 flX9_16 (md_sh hB) (md_r4 hB) (ex_iconst (v := nI 0) dX9_settles_56 rfl (ex_al0 dX9_settles_57 (ex_getR dX9_settles_58 flX9_43 (md_sh hB) (md_r21 hB) (ex_iconst (v := nI 4) dX9_settles_61 rfl (ex_SV4 dX9_settles_62 lkX9_145 ⟨(Nat.le_of_ble_eq_true rfl), (Nat.le_of_ble_eq_true rfl)⟩ ⟨Nat.le_refl _, Nat.le_refl _⟩ (Nat.le_of_ble_eq_true rfl) (m_put (B + 3) (B + 12) 4 4 0 4 (md_a4 hB) (md_a21 hB) (by omega) (by omega) (by omega) (by omega) (by omega) _) (fun M62 h62 => ?_))))))))
  subst h62
  refine (ex_al0 dX9_settles_65 (ex_getR dX9_settles_66 flX9_19 (md_sh hB) (md_r6 hB) (ex_iconst (v := nI 0) dX9_settles_69 rfl (ex_al0 dX9_settles_70 (ex_getR dX9_settles_71 flX9_46 (md_sh hB) (md_r23 hB) (ex_bipush (v := nI 20) dX9_settles_74 rfl (ex_SV4 dX9_settles_76 lkX9_145 ⟨(Nat.le_of_ble_eq_true rfl), (Nat.le_of_ble_eq_true rfl)⟩ ⟨Nat.le_refl _, Nat.le_refl _⟩ (Nat.le_of_ble_eq_true rfl) (m_put (B + 4) (B + 13) 20 20 0 20 (md_a6 hB) (md_a23 hB) (by omega) (by omega) (by omega) (by omega) (by omega) _) (fun M76 h76 => ?_))))))))
  subst h76
  refine (ex_al0 dX9_settles_79 (ex_iconst (v := nI 0) dX9_settles_80 rfl (ex_putI dX9_settles_81 (fpX9_149 _) (md_sh hB) (ex_al0 dX9_settles_84 (ex_iconst (v := nI 0) dX9_settles_85 rfl (ex_putI dX9_settles_86 (fpX9_152 _) (md_sh hB) (ex_al0 dX9_settles_89 (ex_iconst (v := nI 0) dX9_settles_90 rfl (ex_putI dX9_settles_91 (fpX9_155 _) (md_sh hB) (ex_rv dX9_settles_94 rfl ?_))))))))))
  have p0 : ∀ (A : MM) (c n j : Nat) (f : Nat → Int32), j < n → putR A c 0 f n c j = f j := fun A c n j f hj => by have := putR_in (M := A) (c := c) (fr := 0) (f := f) (n := n) hj; rw [Nat.zero_add] at this; exact this
  refine ⟨⟨⟨?_, h6, fun i hi => ?_⟩, ⟨?_, h5, fun i hi => ?_⟩, fun f hf => ?_, ?_, ⟨?_, ?_, fun i hi => ?_⟩, ⟨?_, fun k hk => absurd hk (Nat.not_lt_zero k)⟩, ⟨?_, fun k hk => absurd hk (Nat.not_lt_zero k)⟩, ⟨wr_s, fun k hk => absurd hk (Nat.not_lt_zero k)⟩, ?_, fun k hk => ?_⟩, fun c hc => ?_⟩
  · rw [wr_oi (by omega), wr_oi (by omega), wr_oi (by omega), putR_oc (by omega), putR_oc (by omega), putR_oc (by omega), putR_oc (by omega)]; exact hB0
  · have hi : i < r.1.1.1 := hi
    rw [wr_oc (by omega), wr_oc (by omega), wr_oc (by omega), putR_oc (by omega), putR_oc (by omega), putR_oc (by omega), p0 _ _ _ _ _ (by omega), p0 _ _ _ _ _ (by omega), p0 _ _ _ _ _ (by omega), hc1 _ (by omega)]
    have w1 := a2 i hi
    have w2 := hv.1.2 i hi
    exact ⟨w1.1, w2.1, w1.2.1, w1.2.2, w2.2.2⟩
  · rw [wr_oi (by omega), wr_oi (by omega), wr_oi (by omega), putR_oc (by omega), putR_oc (by omega), putR_oc (by omega), putR_oc (by omega)]; exact hB2
  · have hi : i < r.1.2.1.1 := hi
    rw [wr_oc (by omega), wr_oc (by omega), wr_oc (by omega), putR_oc (by omega), putR_oc (by omega), p0 _ _ _ _ _ (by omega), p0 _ _ _ _ _ (by omega), putR_oc (by omega), hc1 _ (by omega)]
    have w1 := b2 i hi
    have w2 := hv.2.1.2 i hi
    exact ⟨w1.1, w2.1, w1.2, w2.2.2⟩
  · rw [wr_oc (by omega), wr_oc (by omega), wr_oc (by omega), putR_oc (by omega), p0 _ _ _ _ _ (by omega), putR_oc (by omega), putR_oc (by omega), hc1 _ (by omega)]
    exact c1 f hf
  · rw [wr_oi (by omega), wr_oi (by omega), wr_oi (by omega), putR_oc (by omega), putR_oc (by omega), putR_oc (by omega), putR_oc (by omega)]; exact hB5
  · rw [wr_oc (by omega), wr_oc (by omega), wr_oc (by omega), p0 _ _ _ _ _ (by omega), putR_oc (by omega), putR_oc (by omega), putR_oc (by omega), hc1 _ (by omega)]
    exact e1 0 (by omega)
  · rw [wr_oc (by omega), wr_oc (by omega), wr_oc (by omega), p0 _ _ _ _ _ (by omega), putR_oc (by omega), putR_oc (by omega), putR_oc (by omega), hc1 _ (by omega)]
    exact e1 1 (by omega)
  · have hi : i < r.1.1.1 := hi
    rw [wr_oc (by omega), wr_oc (by omega), wr_oc (by omega), Nat.zero_add, Nat.zero_add, Nat.zero_add, p0 _ _ _ _ _ (by omega), p0 _ _ _ _ _ (by omega), p0 _ _ _ _ _ (by omega), putR_oc (by omega), putR_oc (by omega), putR_oc (by omega), hc1 _ (by omega)]
    exact ⟨e1 (2 + i) (by omega), e2 i hi⟩
  · rw [wr_oi (by omega), wr_oi (by omega), wr_s]
  · rw [wr_oi (by omega), wr_s]
  · rw [wr_oi (by omega), wr_oi (by omega), wr_oi (by omega), putR_oc (by omega), putR_oc (by omega), putR_oc (by omega), putR_oc (by omega), hB14]; exact ht.1
  · rw [wr_oc (by omega), wr_oc (by omega), wr_oc (by omega), putR_oc (by omega), putR_oc (by omega), putR_oc (by omega), putR_oc (by omega), hc1 _ (by omega)]
    exact ht.2.2 k hk
  · rw [wr_oc (by omega), wr_oc (by omega), wr_oc (by omega), putR_oc (by omega), putR_oc (by omega), putR_oc (by omega), putR_oc (by omega), hc1 _ (by omega)]
theorem r_lay {sh : Sh} {Mr : MR} {B : Nat} (hB : MD sh Mr B) (M : MM) (g : Sg) (hg : RM B M g) (hv : sgV g) : CtI mX9_lay [.ref B] sh Mr M (PM B M (d_lay g)) := by
  have hpV : rdV (prs g.2.2.2.2.2 200 0 rd0).2 := prs_V 200 0 rd0 rd0_V
  have hn6 := hpV.1.1
  refine ct_of (mi := mX9_lay) (ls := [some (.ref B)]) rfl rfl (Nat.le_of_ble_eq_true rfl) rfl ?_
  refine (ex_al0 dX9_lay_0 (ex_VI0 dX9_lay_1 lkX9_138 (md_sh hB) ⟨_, _, rfl⟩ ⟨(Nat.le_of_ble_eq_true rfl), (Nat.le_of_ble_eq_true rfl)⟩ ⟨Nat.le_refl _, Nat.le_refl _⟩ (Nat.le_of_ble_eq_true rfl) (r_fault hB M g hg hv) (fun v1 M1 h1 => ?_)))
  obtain ⟨⟨rfl, p2, p3⟩, hf, hrd⟩ := h1
  have hde : (d_fault g).1 = (prs g.2.2.2.2.2 200 0 rd0).1 := rfl
  refine (ex_bipush (v := (-4)) dX9_lay_4 rfl (ex_icmp_ne (tgt := 16) dX9_lay_6 rfl (fun c6 => ?_) (fun c6 => ?_)))
  · have hd : d_lay g = (-2, g) := by unfold d_lay; rw [if_neg (fun h => c6 (hde.trans h.1))]
    rw [hd]
    refine (ex_bipush (v := (-2)) dX9_lay_16 rfl (ex_ri dX9_lay_18 rfl rfl (⟨rfl, p2, p3⟩)))
  · have hR := hrd c6
    refine (ex_al0 dX9_lay_9 (ex_getI dX9_lay_10 flX9_78 (md_sh hB) (ex_top (hR.1.1) (ex_if_neN (tgt := 19) dX9_lay_13 rfl (by omega) (fun c13 => ?_) (fun c13 => ?_)))))
    · have hd : d_lay g = (nI (prs g.2.2.2.2.2 200 0 rd0).2.1.1.1, layG g (prs g.2.2.2.2.2 200 0 rd0).2) := by unfold d_lay; rw [if_pos ⟨hde ▸ c6, c13⟩]
      rw [hd]
      refine (ex_al0 dX9_lay_19 (ex_VV0 dX9_lay_20 lkX9_75 (md_sh hB) ⟨_, _, rfl⟩ ⟨(Nat.le_of_ble_eq_true rfl), (Nat.le_of_ble_eq_true rfl)⟩ ⟨Nat.le_refl _, Nat.le_refl _⟩ (Nat.le_of_ble_eq_true rfl) (m_settles hB M1 _ hR hpV g.2.2.1.2 g.2.2.2.1.2 g.2.2.2.2.1.2 g.2.2.2.2.2 (p2.txM hv)) (fun M20 h20 => ?_)))
      obtain ⟨s1, s2⟩ := h20
      refine (ex_al0 dX9_lay_23 (ex_getI dX9_lay_24 flX9_85 (md_sh hB) (ex_top (s1.1.1) (ex_ri dX9_lay_27 rfl rfl (⟨rfl, s1, fun c hc => (s2 c hc).trans (p3 c hc)⟩)))))
    · have hd : d_lay g = (-2, g) := by unfold d_lay; rw [if_neg (fun h => h.2 c13)]
      rw [hd]
      refine (ex_bipush (v := (-2)) dX9_lay_16 rfl (ex_ri dX9_lay_18 rfl rfl (⟨rfl, p2, p3⟩)))
