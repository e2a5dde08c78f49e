/-! the reference: items, fault, lay -/
theorem m_tellsFog {sh : Sh} {Mr : MR} {B : Nat} (hB : MD sh Mr B) (M : MM) (p q r : Nat) (h : p + q + r ≤ 10) : CtV mX9_tellsFog [.ref B, .int (nI p), .int (nI q), .int (nI r)] sh Mr M (fun M' => (∀ c, c ≠ B + 12 → M' c = M c) ∧ ∀ f, f < 4 → M' (B + 12) f = nI (fog3 p q r f)) := by
  refine ct_of (mi := mX9_tellsFog) (ls := [some (.ref B), some (.int (nI p)), some (.int (nI q)), some (.int (nI r))]) rfl rfl (Nat.le_of_ble_eq_true rfl) rfl ?_
  refine (ex_al0 dX9_tellsFog_0 (ex_getR dX9_tellsFog_1 flX9_43 (md_sh hB) (md_r21 hB) (ex_iconst (v := nI 0) dX9_tellsFog_4 rfl (ex_il1 dX9_tellsFog_5 (ex_istN dX9_tellsFog_6 (md_a21 hB) (by omega) (by omega) (ex_al0 dX9_tellsFog_7 (ex_getR dX9_tellsFog_8 flX9_43 (md_sh hB) (md_r21 hB) (ex_iconst (v := nI 1) dX9_tellsFog_11 rfl (ex_il2 dX9_tellsFog_12 (ex_istN dX9_tellsFog_13 (md_a21 hB) (by omega) (by omega) (ex_al0 dX9_tellsFog_14 (ex_getR dX9_tellsFog_15 flX9_43 (md_sh hB) (md_r21 hB) (ex_iconst (v := nI 2) dX9_tellsFog_18 rfl (ex_il3 dX9_tellsFog_19 (ex_istN dX9_tellsFog_20 (md_a21 hB) (by omega) (by omega) (ex_al0 dX9_tellsFog_21 (ex_getR dX9_tellsFog_22 flX9_43 (md_sh hB) (md_r21 hB) (ex_iconst (v := nI 3) dX9_tellsFog_25 rfl (ex_bipush (v := nI 10) dX9_tellsFog_26 rfl (ex_il1 dX9_tellsFog_28 (ex_isubN dX9_tellsFog_29 (by omega) (ex_il2 dX9_tellsFog_30 (ex_isubN dX9_tellsFog_31 (by omega) (ex_il3 dX9_tellsFog_32 (ex_isubN dX9_tellsFog_33 (by omega) (ex_istN dX9_tellsFog_34 (md_a21 hB) (by omega) (by omega) (ex_rv dX9_tellsFog_35 rfl ?_)))))))))))))))))))))))))))
  refine ⟨fun c hc => by rw [wr_oc hc, wr_oc hc, wr_oc hc, wr_oc hc], fun f hf => ?_⟩
  rcases (show f = 0 ∨ f = 1 ∨ f = 2 ∨ f = 3 by omega) with rfl | rfl | rfl | rfl
  · rw [wr_oi (by omega), wr_oi (by omega), wr_oi (by omega), wr_s]; rfl
  · rw [wr_oi (by omega), wr_oi (by omega), wr_s]; rfl
  · rw [wr_oi (by omega), wr_s]; rfl
  · rw [wr_s]; rfl
theorem m_clearTold {sh : Sh} {Mr : MR} {B : Nat} (hB : MD sh Mr B) (M : MM) : CtV mX9_clearTold [.ref B] sh Mr M (fun M' => RdM B M' rd0 ∧ FrR B M M' ∧ M' B 15 = M B 15) := by
  refine ct_of (mi := mX9_clearTold) (ls := [some (.ref B), none]) rfl rfl (Nat.le_of_ble_eq_true rfl) rfl ?_
  refine (ex_al0 dX9_clearTold_0 (ex_iconst (v := nI 0) dX9_clearTold_1 rfl (ex_putI dX9_clearTold_2 (fpX9_78 _) (md_sh hB) (ex_al0 dX9_clearTold_5 (ex_iconst (v := nI 0) dX9_clearTold_6 rfl (ex_putI dX9_clearTold_7 (fpX9_82 _) (md_sh hB) (ex_al0 dX9_clearTold_10 (ex_iconst (v := nI 4) dX9_clearTold_11 rfl (ex_iconst (v := nI 3) dX9_clearTold_12 rfl (ex_iconst (v := nI 2) dX9_clearTold_13 rfl (ex_VV3 dX9_clearTold_14 lkX9_109 (md_sh hB) ⟨_, _, rfl⟩ ⟨(Nat.le_of_ble_eq_true rfl), (Nat.le_of_ble_eq_true rfl)⟩ ⟨Nat.le_refl _, Nat.le_refl _⟩ (Nat.le_of_ble_eq_true rfl) (m_tellsFog hB _ 4 3 2 (by omega)) (fun M14 h14 => ?_))))))))))))
  obtain ⟨g1, g2⟩ := h14
  refine (ex_al0 dX9_clearTold_17 (ex_bipush (v := nI 20) dX9_clearTold_18 rfl (ex_putI dX9_clearTold_20 (fpX9_113 _) (md_sh hB) (ex_iconst (v := nI 0) dX9_clearTold_23 rfl (ex_is1 dX9_clearTold_24 (Nat.le_of_ble_eq_true rfl) rfl ?_)))))
  refine ex_for (I := fun j ls M' => ls = [some (.ref B), some (.int (nI j))] ∧ M' = putR (wr M14 B 22 (nI 20)) (B + 13) 0 (fun _ => nI 0) j) 20 ?_ ?_ 0 _ _ (Nat.zero_le _) ⟨rfl, putR_0.symm⟩
  · intro j ls M' hj h ih
    obtain ⟨rfl, rfl⟩ := h
    refine (ex_il1 dX9_clearTold_25 (ex_bipush (v := nI 20) dX9_clearTold_26 rfl (ex_icmp_geN (tgt := 44) dX9_clearTold_28 rfl (by omega) (by omega) (fun c28 => (absurd c28 (by omega))) (fun c28 => (ex_al0 dX9_clearTold_31 (ex_getR dX9_clearTold_32 flX9_46 (md_sh hB) (md_r23 hB) (ex_il1 dX9_clearTold_35 (ex_iconst (v := nI 0) dX9_clearTold_36 rfl (ex_istN dX9_clearTold_37 (md_a23 hB) (by omega) (by omega) (ex_inc1 dX9_clearTold_38 (Nat.le_of_ble_eq_true rfl) rfl (inc1 _) (ex_goto (tgt := 25) dX9_clearTold_41 rfl ?_)))))))))))
    refine ih _ _ ⟨rfl, ?_⟩
    have := putR_s (M := wr M14 B 22 (nI 20)) (c := B + 13) (fr := 0) (f := fun _ => nI 0) (n := j)
    rw [Nat.zero_add] at this
    exact this
  · intro ls M' h
    obtain ⟨rfl, rfl⟩ := h
    refine (ex_il1 dX9_clearTold_25 (ex_bipush (v := nI 20) dX9_clearTold_26 rfl (ex_icmp_geN (tgt := 44) dX9_clearTold_28 rfl (by omega) (by omega) (fun c28 => (ex_rv dX9_clearTold_44 rfl ?_)) (fun c28 => (absurd (Nat.le_refl 20) c28)))))
    have g0 : ∀ k, M14 B k = wr (wr M B 17 (nI 0)) B 19 (nI 0) B k := fun k => by rw [g1 B (by omega)]
    refine ⟨⟨⟨?_, fun i hi => absurd hi (Nat.not_lt_zero i)⟩, ⟨?_, fun i hi => absurd hi (Nat.not_lt_zero i)⟩, ?_, ?_, ?_, fun i hi => absurd hi (Nat.not_lt_zero i)⟩, ⟨fun c hc => ?_, fun k a1 a2 a3 a4 => ?_⟩, ?_⟩
    · rw [putR_oc (by omega), wr_oi (by omega), g0, wr_oi (by omega), wr_s]; rfl
    · rw [putR_oc (by omega), wr_oi (by omega), g0, wr_s]; rfl
    · rw [putR_oc (by omega), wr_oc (by omega)]; exact g2
    · rw [putR_oc (by omega), wr_s]; rfl
    · intro j hj
      have := putR_in (M := wr M14 B 22 (nI 20)) (c := B + 13) (fr := 0) (f := fun _ => nI 0) (n := 20) (j := j) (by omega)
      rw [Nat.zero_add] at this
      exact this
    · rw [putR_oc (by omega), wr_oc (by omega), g1 c (by omega), wr_oc (by omega), wr_oc (by omega)]
    · rw [putR_oc (by omega), wr_oi (by omega), g0, wr_oi (by omega), wr_oi (by omega)]
    · rw [putR_oc (by omega), wr_oi (by omega), g0, wr_oi (by omega), wr_oi (by omega)]
/-- an item read: what it tells, and where the next begins -/
def QIt (B : Nat) (M : MM) (o : Option (Rd × Nat)) : Int32 → MM → Prop := fun v M' => FrR B M M' ∧ v = bI o.isSome ∧ ∀ q, o = some q → RdM B M' q.1 ∧ M' B 15 = nI q.2
theorem RdM.rd {B n : Nat} {M M' : MM} {r : Rd} {o : Option ((Nat → Nat) × Nat)} {v : Int32} (h : RdM B M r) (hq : QRd B M n o v M') : RdM B M' r := h.of (fun k hk => hq.2.1 k (by omega)) (fun c h1 h2 => hq.1 c (by omega) (by omega))
theorem m_readTenantOf {sh : Sh} {Mr : MR} {B : Nat} (hB : MD sh Mr B) (M : MM) (t : Tx) (ht : TxM B M t) (r : Rd) (hr : RdM B M r) (hv : rdV r) (a : Nat) (h15 : M B 15 = nI a) (ha : a ≤ 1000) : CtI mX9_readTenantOf [.ref B] sh Mr M (QIt B M (tk (rdK t 5 (fun _ => 0) 0 a) (okT r) (addT r))) := by
  have h6 := hv.1.1
  have J : ∀ M2, FrR B M M2 → tk (rdK t 5 (fun _ => 0) 0 a) (okT r) (addT r) = none → EI mX9_readTenantOf sh Mr (QIt B M (tk (rdK t 5 (fun _ => 0) 0 a) (okT r) (addT r))) 70 [some (.ref B)] [] M2 := by
    intro M2 hf hn
    refine (ex_iconst (v := nI 0) dX9_readTenantOf_70 rfl (ex_ri dX9_readTenantOf_71 rfl rfl (⟨hf, by rw [hn]; rfl, fun q hq => by rw [hn] at hq; cases hq⟩)))
  refine ct_of (mi := mX9_readTenantOf) (ls := [some (.ref B)]) rfl rfl (Nat.le_of_ble_eq_true rfl) rfl ?_
  refine (ex_al0 dX9_readTenantOf_0 (ex_getI dX9_readTenantOf_1 flX9_78 (md_sh hB) (ex_top (hr.1.1) (ex_bipush (v := nI 6) dX9_readTenantOf_4 rfl (ex_icmp_eqN (tgt := 70) dX9_readTenantOf_6 rfl (by omega) (by omega) (fun c6 => ?_) (fun c6 => ?_))))))
  · refine J M FrR.rf ?_
    have hno : ∀ v, okT r v = false := fun v => by unfold okT; simp [c6]
    unfold tk
    cases rdK t 5 (fun _ => 0) 0 a with
    | none => rfl
    | some q => simp [hno]
  · refine (ex_al0 dX9_readTenantOf_9 (ex_iconst (v := nI 5) dX9_readTenantOf_10 rfl (ex_VI1 dX9_readTenantOf_11 lkX9_116 (md_sh hB) ⟨_, _, rfl⟩ ⟨(Nat.le_of_ble_eq_true rfl), (Nat.le_of_ble_eq_true rfl)⟩ ⟨Nat.le_refl _, Nat.le_refl _⟩ (Nat.le_of_ble_eq_true rfl) (m_readNumbers hB M t ht 5 a (by omega) h15 ha) (fun v11 M11 h11 => ?_))))
    have hfr := FrR.rd h11
    have hrd := hr.rd h11
    obtain ⟨g1, g2, rfl, g4⟩ := h11
    refine (ex_ifB_eq (tgt := 70) dX9_readTenantOf_14 rfl (fun c14 => ?_) (fun c14 => ?_))
    · refine J M11 hfr ?_
      cases hz : rdK t 5 (fun _ => 0) 0 a with
      | none => rfl
      | some q => rw [hz] at c14; cases c14
    · cases hz : rdK t 5 (fun _ => 0) 0 a with
      | none => rw [hz] at c14; cases c14
      | some q =>
        obtain ⟨k1, k2⟩ := g4 q hz
        obtain ⟨b1, b2, b3⟩ := rdK_le hz (fun _ => by omega)
        have hb : ∀ i, q.1 i < 2 ^ 31 := fun i => by have := b1 i; omega
        rw [hz] at J
        have htk : tk (some q) (okT r) (addT r) = if okT r q.1 then some (addT r q.1, q.2) else none := rfl
        have hin : ∀ k x y, k < 5 → x < 2 ^ 31 → y < 2 ^ 31 → inB (M11 (B + 9) k) (nI x) (nI y) = (decide (x ≤ q.1 k) && decide (q.1 k ≤ y)) := fun k x y hk hx hy => by rw [k2 k hk, inB_nI (hb k) hx hy]
        have hT : ∀ M2, FrR B M M2 → okT r q.1 = false → EI mX9_readTenantOf sh Mr (QIt B M (tk (some q) (okT r) (addT r))) 70 [some (.ref B)] [] M2 := fun M2 hf ho => J M2 hf (by rw [htk, ho]; rfl)
        refine (ex_al0 dX9_readTenantOf_17 (ex_iconst (v := nI 0) dX9_readTenantOf_18 rfl (ex_iconst (v := nI 0) dX9_readTenantOf_19 rfl (ex_iconst (v := nI 3) dX9_readTenantOf_20 rfl (ex_VP3 dX9_readTenantOf_21 lkX9_119 (md_sh hB) ⟨_, _, rfl⟩ ⟨(Nat.le_of_ble_eq_true rfl), (Nat.le_of_ble_eq_true rfl)⟩ ⟨Nat.le_refl _, Nat.le_refl _⟩ (Nat.le_of_ble_eq_true rfl) (m_isTold hB 0 (by omega) _ _ _) (ex_ifB_eq (tgt := 70) dX9_readTenantOf_24 rfl (fun c24 => ?_) (fun c24 => ?_)))))))
        · rw [hin 0 0 3 (by omega) (by omega) (by omega)] at c24
          exact hT M11 hfr (by unfold okT; simp at c24 ⊢; omega)
        · rw [hin 0 0 3 (by omega) (by omega) (by omega)] at c24
          refine (ex_al0 dX9_readTenantOf_27 (ex_iconst (v := nI 1) dX9_readTenantOf_28 rfl (ex_iconst (v := nI 0) dX9_readTenantOf_29 rfl (ex_bipush (v := nI 23) dX9_readTenantOf_30 rfl (ex_VP3 dX9_readTenantOf_32 lkX9_119 (md_sh hB) ⟨_, _, rfl⟩ ⟨(Nat.le_of_ble_eq_true rfl), (Nat.le_of_ble_eq_true rfl)⟩ ⟨Nat.le_refl _, Nat.le_refl _⟩ (Nat.le_of_ble_eq_true rfl) (m_isTold hB 1 (by omega) _ _ _) (ex_ifB_eq (tgt := 70) dX9_readTenantOf_35 rfl (fun c35 => ?_) (fun c35 => ?_)))))))
          · rw [hin 1 0 23 (by omega) (by omega) (by omega)] at c35
            exact hT M11 hfr (by unfold okT; simp at c35 ⊢; omega)
          · rw [hin 1 0 23 (by omega) (by omega) (by omega)] at c35
            refine (ex_al0 dX9_readTenantOf_38 (ex_iconst (v := nI 2) dX9_readTenantOf_39 rfl (ex_iconst (v := nI 1) dX9_readTenantOf_40 rfl (ex_bipush (v := nI 12) dX9_readTenantOf_41 rfl (ex_VP3 dX9_readTenantOf_43 lkX9_119 (md_sh hB) ⟨_, _, rfl⟩ ⟨(Nat.le_of_ble_eq_true rfl), (Nat.le_of_ble_eq_true rfl)⟩ ⟨Nat.le_refl _, Nat.le_refl _⟩ (Nat.le_of_ble_eq_true rfl) (m_isTold hB 2 (by omega) _ _ _) (ex_ifB_eq (tgt := 70) dX9_readTenantOf_46 rfl (fun c46 => ?_) (fun c46 => ?_)))))))
            · rw [hin 2 1 12 (by omega) (by omega) (by omega)] at c46
              exact hT M11 hfr (by unfold okT; simp at c46 ⊢; omega)
            · rw [hin 2 1 12 (by omega) (by omega) (by omega)] at c46
              refine (ex_al0 dX9_readTenantOf_49 (ex_iconst (v := nI 3) dX9_readTenantOf_50 rfl (ex_iconst (v := nI 0) dX9_readTenantOf_51 rfl (ex_bipush (v := nI 20) dX9_readTenantOf_52 rfl (ex_VP3 dX9_readTenantOf_54 lkX9_119 (md_sh hB) ⟨_, _, rfl⟩ ⟨(Nat.le_of_ble_eq_true rfl), (Nat.le_of_ble_eq_true rfl)⟩ ⟨Nat.le_refl _, Nat.le_refl _⟩ (Nat.le_of_ble_eq_true rfl) (m_isTold hB 3 (by omega) _ _ _) (ex_ifB_eq (tgt := 70) dX9_readTenantOf_57 rfl (fun c57 => ?_) (fun c57 => ?_)))))))
              · rw [hin 3 0 20 (by omega) (by omega) (by omega)] at c57
                exact hT M11 hfr (by unfold okT; simp at c57 ⊢; omega)
              · rw [hin 3 0 20 (by omega) (by omega) (by omega)] at c57
                refine (ex_al0 dX9_readTenantOf_60 (ex_iconst (v := nI 4) dX9_readTenantOf_61 rfl (ex_iconst (v := nI 0) dX9_readTenantOf_62 rfl (ex_iconst (v := nI 3) dX9_readTenantOf_63 rfl (ex_VP3 dX9_readTenantOf_64 lkX9_119 (md_sh hB) ⟨_, _, rfl⟩ ⟨(Nat.le_of_ble_eq_true rfl), (Nat.le_of_ble_eq_true rfl)⟩ ⟨Nat.le_refl _, Nat.le_refl _⟩ (Nat.le_of_ble_eq_true rfl) (m_isTold hB 4 (by omega) _ _ _) (ex_ifB_ne (tgt := 72) dX9_readTenantOf_67 rfl (fun c67 => ?_) (fun c67 => ?_)))))))
                · rw [hin 4 0 3 (by omega) (by omega) (by omega)] at c67
                  have hok : okT r q.1 = true := by unfold okT; simp at c24 c35 c46 c57 c67 ⊢; omega
                  refine (ex_al0 dX9_readTenantOf_72 (ex_al0 dX9_readTenantOf_73 (ex_getR dX9_readTenantOf_74 flX9_34 (md_sh hB) (md_r16 hB) (ex_iconst (v := nI 0) dX9_readTenantOf_77 rfl (ex_ildN dX9_readTenantOf_78 (md_a16 hB) (by omega) (by omega) (ex_top (k2 0 (by omega)) (ex_al0 dX9_readTenantOf_79 (ex_getR dX9_readTenantOf_80 flX9_34 (md_sh hB) (md_r16 hB) (ex_iconst (v := nI 1) dX9_readTenantOf_83 rfl (ex_ildN dX9_readTenantOf_84 (md_a16 hB) (by omega) (by omega) (ex_top (k2 1 (by omega)) (ex_al0 dX9_readTenantOf_85 (ex_getR dX9_readTenantOf_86 flX9_34 (md_sh hB) (md_r16 hB) (ex_iconst (v := nI 2) dX9_readTenantOf_89 rfl (ex_ildN dX9_readTenantOf_90 (md_a16 hB) (by omega) (by omega) (ex_top (k2 2 (by omega)) (ex_al0 dX9_readTenantOf_91 (ex_getR dX9_readTenantOf_92 flX9_34 (md_sh hB) (md_r16 hB) (ex_iconst (v := nI 3) dX9_readTenantOf_95 rfl (ex_ildN dX9_readTenantOf_96 (md_a16 hB) (by omega) (by omega) (ex_top (k2 3 (by omega)) (ex_al0 dX9_readTenantOf_97 (ex_getR dX9_readTenantOf_98 flX9_34 (md_sh hB) (md_r16 hB) (ex_iconst (v := nI 4) dX9_readTenantOf_101 rfl (ex_ildN dX9_readTenantOf_102 (md_a16 hB) (by omega) (by omega) (ex_top (k2 4 (by omega)) (ex_VV5 dX9_readTenantOf_103 lkX9_67 (md_sh hB) ⟨_, _, rfl⟩ ⟨(Nat.le_of_ble_eq_true rfl), (Nat.le_of_ble_eq_true rfl)⟩ ⟨Nat.le_refl _, Nat.le_refl _⟩ (Nat.le_of_ble_eq_true rfl) (m_tells hB M11 r hrd q.1 (by omega)) (fun M103 h103 => ?_))))))))))))))))))))))))))))
                  refine (ex_iconst (v := nI 1) dX9_readTenantOf_106 rfl (ex_ri dX9_readTenantOf_107 rfl rfl (⟨hfr.tr h103.2.1, by rw [htk, hok]; rfl, fun q2 hq => by rw [htk, hok] at hq; cases hq; exact ⟨h103.1, by rw [h103.2.2]; exact k1⟩⟩)))
                · rw [hin 4 0 3 (by omega) (by omega) (by omega)] at c67
                  exact hT M11 hfr (by unfold okT; simp at c67 ⊢; omega)
theorem m_readShipOf {sh : Sh} {Mr : MR} {B : Nat} (hB : MD sh Mr B) (M : MM) (t : Tx) (ht : TxM B M t) (r : Rd) (hr : RdM B M r) (hv : rdV r) (a : Nat) (h15 : M B 15 = nI a) (ha : a ≤ 1000) : CtI mX9_readShipOf [.ref B] sh Mr M (QIt B M (tk (rdK t 2 (fun _ => 0) 0 a) (okS r) (addS r))) := by
  have h6 := hv.2.1.1
  have J : ∀ M2, FrR B M M2 → tk (rdK t 2 (fun _ => 0) 0 a) (okS r) (addS r) = none → EI mX9_readShipOf sh Mr (QIt B M (tk (rdK t 2 (fun _ => 0) 0 a) (okS r) (addS r))) 38 [some (.ref B)] [] M2 := by
    intro M2 hf hn
    refine (ex_iconst (v := nI 0) dX9_readShipOf_38 rfl (ex_ri dX9_readShipOf_39 rfl rfl (⟨hf, by rw [hn]; rfl, fun q hq => by rw [hn] at hq; cases hq⟩)))
  refine ct_of (mi := mX9_readShipOf) (ls := [some (.ref B)]) rfl rfl (Nat.le_of_ble_eq_true rfl) rfl ?_
  refine (ex_al0 dX9_readShipOf_0 (ex_getI dX9_readShipOf_1 flX9_82 (md_sh hB) (ex_top (hr.2.1.1) (ex_iconst (v := nI 5) dX9_readShipOf_4 rfl (ex_icmp_eqN (tgt := 38) dX9_readShipOf_5 rfl (by omega) (by omega) (fun c5 => ?_) (fun c5 => ?_))))))
  · refine J M FrR.rf ?_
    have hno : ∀ v, okS r v = false := fun v => by unfold okS; simp [c5]
    unfold tk
    cases rdK t 2 (fun _ => 0) 0 a with
    | none => rfl
    | some q => simp [hno]
  · refine (ex_al0 dX9_readShipOf_8 (ex_iconst (v := nI 2) dX9_readShipOf_9 rfl (ex_VI1 dX9_readShipOf_10 lkX9_116 (md_sh hB) ⟨_, _, rfl⟩ ⟨(Nat.le_of_ble_eq_true rfl), (Nat.le_of_ble_eq_true rfl)⟩ ⟨Nat.le_refl _, Nat.le_refl _⟩ (Nat.le_of_ble_eq_true rfl) (m_readNumbers hB M t ht 2 a (by omega) h15 ha) (fun v10 M10 h10 => ?_))))
    have hfr := FrR.rd h10
    have hrd := hr.rd h10
    obtain ⟨g1, g2, rfl, g4⟩ := h10
    refine (ex_ifB_eq (tgt := 38) dX9_readShipOf_13 rfl (fun c13 => ?_) (fun c13 => ?_))
    · refine J M10 hfr ?_
      cases hz : rdK t 2 (fun _ => 0) 0 a with
      | none => rfl
      | some q => rw [hz] at c13; cases c13
    · cases hz : rdK t 2 (fun _ => 0) 0 a with
      | none => rw [hz] at c13; cases c13
      | some q =>
        obtain ⟨k1, k2⟩ := g4 q hz
        obtain ⟨b1, b2, b3⟩ := rdK_le hz (fun _ => by omega)
        have hb : ∀ i, q.1 i < 2 ^ 31 := fun i => by have := b1 i; omega
        rw [hz] at J
        have htk : tk (some q) (okS r) (addS r) = if okS r q.1 then some (addS r q.1, q.2) else none := rfl
        have hin : ∀ k x y, k < 2 → x < 2 ^ 31 → y < 2 ^ 31 → inB (M10 (B + 9) k) (nI x) (nI y) = (decide (x ≤ q.1 k) && decide (q.1 k ≤ y)) := fun k x y hk hx hy => by rw [k2 k hk, inB_nI (hb k) hx hy]
        have hT : ∀ M2, FrR B M M2 → okS r q.1 = false → EI mX9_readShipOf sh Mr (QIt B M (tk (some q) (okS r) (addS r))) 38 [some (.ref B)] [] M2 := fun M2 hf ho => J M2 hf (by rw [htk, ho]; rfl)
        refine (ex_al0 dX9_readShipOf_16 (ex_iconst (v := nI 0) dX9_readShipOf_17 rfl (ex_iconst (v := nI 0) dX9_readShipOf_18 rfl (ex_bipush (v := nI 23) dX9_readShipOf_19 rfl (ex_VP3 dX9_readShipOf_21 lkX9_119 (md_sh hB) ⟨_, _, rfl⟩ ⟨(Nat.le_of_ble_eq_true rfl), (Nat.le_of_ble_eq_true rfl)⟩ ⟨Nat.le_refl _, Nat.le_refl _⟩ (Nat.le_of_ble_eq_true rfl) (m_isTold hB 0 (by omega) _ _ _) (ex_ifB_eq (tgt := 38) dX9_readShipOf_24 rfl (fun c24 => ?_) (fun c24 => ?_)))))))
        · rw [hin 0 0 23 (by omega) (by omega) (by omega)] at c24
          exact hT M10 hfr (by unfold okS; simp at c24 ⊢; omega)
        · rw [hin 0 0 23 (by omega) (by omega) (by omega)] at c24
          refine (ex_al0 dX9_readShipOf_27 (ex_iconst (v := nI 1) dX9_readShipOf_28 rfl (ex_iconst (v := nI 1) dX9_readShipOf_29 rfl (ex_bipush (v := nI 12) dX9_readShipOf_30 rfl (ex_VP3 dX9_readShipOf_32 lkX9_119 (md_sh hB) ⟨_, _, rfl⟩ ⟨(Nat.le_of_ble_eq_true rfl), (Nat.le_of_ble_eq_true rfl)⟩ ⟨Nat.le_refl _, Nat.le_refl _⟩ (Nat.le_of_ble_eq_true rfl) (m_isTold hB 1 (by omega) _ _ _) (ex_ifB_ne (tgt := 40) dX9_readShipOf_35 rfl (fun c35 => ?_) (fun c35 => ?_)))))))
          · rw [hin 1 1 12 (by omega) (by omega) (by omega)] at c35
            have hok : okS r q.1 = true := by unfold okS; simp at c24 c35 ⊢; omega
            refine (ex_al0 dX9_readShipOf_40 (ex_al0 dX9_readShipOf_41 (ex_getR dX9_readShipOf_42 flX9_34 (md_sh hB) (md_r16 hB) (ex_iconst (v := nI 0) dX9_readShipOf_45 rfl (ex_ildN dX9_readShipOf_46 (md_a16 hB) (by omega) (by omega) (ex_top (k2 0 (by omega)) (ex_al0 dX9_readShipOf_47 (ex_getR dX9_readShipOf_48 flX9_34 (md_sh hB) (md_r16 hB) (ex_iconst (v := nI 1) dX9_readShipOf_51 rfl (ex_ildN dX9_readShipOf_52 (md_a16 hB) (by omega) (by omega) (ex_top (k2 1 (by omega)) (ex_VV2 dX9_readShipOf_53 lkX9_71 (md_sh hB) ⟨_, _, rfl⟩ ⟨(Nat.le_of_ble_eq_true rfl), (Nat.le_of_ble_eq_true rfl)⟩ ⟨Nat.le_refl _, Nat.le_refl _⟩ (Nat.le_of_ble_eq_true rfl) (m_tellsShip hB M10 r hrd q.1 (by omega)) (fun M53 h53 => ?_)))))))))))))
            refine (ex_iconst (v := nI 1) dX9_readShipOf_56 rfl (ex_ri dX9_readShipOf_57 rfl rfl (⟨hfr.tr h53.2.1, by rw [htk, hok]; rfl, fun q2 hq => by rw [htk, hok] at hq; cases hq; exact ⟨h53.1, by rw [h53.2.2]; exact k1⟩⟩)))
          · rw [hin 1 1 12 (by omega) (by omega) (by omega)] at c35
            exact hT M10 hfr (by unfold okS; simp at c35 ⊢; omega)
theorem m_readFogOf {sh : Sh} {Mr : MR} {B : Nat} (hB : MD sh Mr B) (M : MM) (t : Tx) (ht : TxM B M t) (r : Rd) (hr : RdM B M r) (a : Nat) (h15 : M B 15 = nI a) (ha : a ≤ 1000) : CtI mX9_readFogOf [.ref B] sh Mr M (QIt B M (tk (rdK t 3 (fun _ => 0) 0 a) okF (setF r))) := by
  have J : ∀ M2, FrR B M M2 → tk (rdK t 3 (fun _ => 0) 0 a) okF (setF r) = none → EI mX9_readFogOf sh Mr (QIt B M (tk (rdK t 3 (fun _ => 0) 0 a) okF (setF r))) 33 [some (.ref B)] [] M2 := by
    intro M2 hf hn
    refine (ex_iconst (v := nI 0) dX9_readFogOf_33 rfl (ex_ri dX9_readFogOf_34 rfl rfl (⟨hf, by rw [hn]; rfl, fun q hq => by rw [hn] at hq; cases hq⟩)))
  refine ct_of (mi := mX9_readFogOf) (ls := [some (.ref B)]) rfl rfl (Nat.le_of_ble_eq_true rfl) rfl ?_
  refine (ex_al0 dX9_readFogOf_0 (ex_iconst (v := nI 3) dX9_readFogOf_1 rfl (ex_VI1 dX9_readFogOf_2 lkX9_116 (md_sh hB) ⟨_, _, rfl⟩ ⟨(Nat.le_of_ble_eq_true rfl), (Nat.le_of_ble_eq_true rfl)⟩ ⟨Nat.le_refl _, Nat.le_refl _⟩ (Nat.le_of_ble_eq_true rfl) (m_readNumbers hB M t ht 3 a (by omega) h15 ha) (fun v2 M2 h2 => ?_))))
  have hfr := FrR.rd h2
  have hrd := hr.rd h2
  obtain ⟨g1, g2, rfl, g4⟩ := h2
  refine (ex_ifB_eq (tgt := 33) dX9_readFogOf_5 rfl (fun c5 => ?_) (fun c5 => ?_))
  · refine J M2 hfr ?_
    cases hz : rdK t 3 (fun _ => 0) 0 a with
    | none => rfl
    | some q => rw [hz] at c5; cases c5
  · cases hz : rdK t 3 (fun _ => 0) 0 a with
    | none => rw [hz] at c5; cases c5
    | some q =>
      obtain ⟨k1, k2⟩ := g4 q hz
      obtain ⟨b1, b2, b3⟩ := rdK_le hz (fun _ => by omega)
      have e0 := b1 0
      have e1 := b1 1
      have e2 := b1 2
      rw [hz] at J
      have htk : tk (some q) okF (setF r) = if okF q.1 then some (setF r q.1, q.2) else none := rfl
      refine (ex_al0 dX9_readFogOf_8 (ex_getR dX9_readFogOf_9 flX9_34 (md_sh hB) (md_r16 hB) (ex_iconst (v := nI 0) dX9_readFogOf_12 rfl (ex_ildN dX9_readFogOf_13 (md_a16 hB) (by omega) (by omega) (ex_top (k2 0 (by omega)) (ex_al0 dX9_readFogOf_14 (ex_getR dX9_readFogOf_15 flX9_34 (md_sh hB) (md_r16 hB) (ex_iconst (v := nI 1) dX9_readFogOf_18 rfl (ex_ildN dX9_readFogOf_19 (md_a16 hB) (by omega) (by omega) (ex_top (k2 1 (by omega)) (ex_iaddN dX9_readFogOf_20 (ex_al0 dX9_readFogOf_21 (ex_getR dX9_readFogOf_22 flX9_34 (md_sh hB) (md_r16 hB) (ex_iconst (v := nI 2) dX9_readFogOf_25 rfl (ex_ildN dX9_readFogOf_26 (md_a16 hB) (by omega) (by omega) (ex_top (k2 2 (by omega)) (ex_iaddN dX9_readFogOf_27 (ex_bipush (v := nI 10) dX9_readFogOf_28 rfl (ex_icmp_leN (tgt := 35) dX9_readFogOf_30 rfl (by omega) (by omega) (fun c30 => ?_) (fun c30 => ?_))))))))))))))))))))
      · have hok : okF q.1 = true := decide_eq_true c30
        refine (ex_al0 dX9_readFogOf_35 (ex_al0 dX9_readFogOf_36 (ex_getR dX9_readFogOf_37 flX9_34 (md_sh hB) (md_r16 hB) (ex_iconst (v := nI 0) dX9_readFogOf_40 rfl (ex_ildN dX9_readFogOf_41 (md_a16 hB) (by omega) (by omega) (ex_top (k2 0 (by omega)) (ex_al0 dX9_readFogOf_42 (ex_getR dX9_readFogOf_43 flX9_34 (md_sh hB) (md_r16 hB) (ex_iconst (v := nI 1) dX9_readFogOf_46 rfl (ex_ildN dX9_readFogOf_47 (md_a16 hB) (by omega) (by omega) (ex_top (k2 1 (by omega)) (ex_al0 dX9_readFogOf_48 (ex_getR dX9_readFogOf_49 flX9_34 (md_sh hB) (md_r16 hB) (ex_iconst (v := nI 2) dX9_readFogOf_52 rfl (ex_ildN dX9_readFogOf_53 (md_a16 hB) (by omega) (by omega) (ex_top (k2 2 (by omega)) (ex_VV3 dX9_readFogOf_54 lkX9_109 (md_sh hB) ⟨_, _, rfl⟩ ⟨(Nat.le_of_ble_eq_true rfl), (Nat.le_of_ble_eq_true rfl)⟩ ⟨Nat.le_refl _, Nat.le_refl _⟩ (Nat.le_of_ble_eq_true rfl) (m_tellsFog hB M2 (q.1 0) (q.1 1) (q.1 2) c30) (fun M54 h54 => ?_))))))))))))))))))
        obtain ⟨f1, f2⟩ := h54
        obtain ⟨x1, x2, x3, x4, x5, x6⟩ := hrd
        refine (ex_iconst (v := nI 1) dX9_readFogOf_57 rfl (ex_ri dX9_readFogOf_58 rfl rfl ?_))
        refine ⟨hfr.tr ⟨fun c hc => f1 c (by omega), fun k _ _ _ _ => by rw [f1 B (by omega)]⟩, by rw [htk, hok]; rfl, fun q2 hq => ?_⟩
        rw [htk, hok] at hq
        cases hq
        refine ⟨⟨?_, ?_, f2, ?_, ?_, ?_⟩, by rw [f1 B (by omega)]; exact k1⟩
        · rw [f1 B (by omega), f1 (B + 10) (by omega)]; exact x1
        · rw [f1 B (by omega), f1 (B + 11) (by omega)]; exact x2
        · rw [f1 B (by omega)]; exact x4
        · rw [f1 (B + 13) (by omega)]; exact x5
        · rw [f1 (B + 13) (by omega)]; exact x6
      · exact J M2 hfr (by rw [htk, show okF q.1 = false from decide_eq_false c30]; rfl)
theorem m_readMostOf {sh : Sh} {Mr : MR} {B : Nat} (hB : MD sh Mr B) (M : MM) (t : Tx) (ht : TxM B M t) (r : Rd) (hr : RdM B M r) (a : Nat) (h15 : M B 15 = nI a) (ha : a ≤ 1000) : CtI mX9_readMostOf [.ref B] sh Mr M (QIt B M (tk (rdK t 1 (fun _ => 0) 0 a) okB (setB r))) := by
  have J : ∀ M2, FrR B M M2 → tk (rdK t 1 (fun _ => 0) 0 a) okB (setB r) = none → EI mX9_readMostOf sh Mr (QIt B M (tk (rdK t 1 (fun _ => 0) 0 a) okB (setB r))) 23 [some (.ref B), none] [] M2 := by
    intro M2 hf hn
    refine (ex_iconst (v := nI 0) dX9_readMostOf_23 rfl (ex_is1 dX9_readMostOf_24 (Nat.le_of_ble_eq_true rfl) rfl (ex_al0 dX9_readMostOf_25 (ex_il1 dX9_readMostOf_26 (ex_if_eqN (tgt := 39) dX9_readMostOf_27 rfl (by omega) (fun c27 => (ex_al0 dX9_readMostOf_39 (ex_getI dX9_readMostOf_40 flX9_113 (md_sh hB) (ex_putI dX9_readMostOf_43 (fpX9_113 _) (md_sh hB) (ex_il1 dX9_readMostOf_46 (ex_ri dX9_readMostOf_47 rfl rfl (⟨hf.wr (by omega), by rw [hn]; rfl, fun q hq => by rw [hn] at hq; cases hq⟩))))))) (fun c27 => (absurd rfl c27)))))))
  refine ct_of (mi := mX9_readMostOf) (ls := [some (.ref B), none]) rfl rfl (Nat.le_of_ble_eq_true rfl) rfl ?_
  refine (ex_al0 dX9_readMostOf_0 (ex_iconst (v := nI 1) dX9_readMostOf_1 rfl (ex_VI1 dX9_readMostOf_2 lkX9_116 (md_sh hB) ⟨_, _, rfl⟩ ⟨(Nat.le_of_ble_eq_true rfl), (Nat.le_of_ble_eq_true rfl)⟩ ⟨Nat.le_refl _, Nat.le_refl _⟩ (Nat.le_of_ble_eq_true rfl) (m_readNumbers hB M t ht 1 a (by omega) h15 ha) (fun v2 M2 h2 => ?_))))
  have hfr := FrR.rd h2
  have hrd := hr.rd h2
  obtain ⟨g1, g2, rfl, g4⟩ := h2
  refine (ex_ifB_eq (tgt := 23) dX9_readMostOf_5 rfl (fun c5 => ?_) (fun c5 => ?_))
  · refine J M2 hfr ?_
    cases hz : rdK t 1 (fun _ => 0) 0 a with
    | none => rfl
    | some q => rw [hz] at c5; cases c5
  · cases hz : rdK t 1 (fun _ => 0) 0 a with
    | none => rw [hz] at c5; cases c5
    | some q =>
      obtain ⟨k1, k2⟩ := g4 q hz
      obtain ⟨b1, b2, b3⟩ := rdK_le hz (fun _ => by omega)
      have e0 := b1 0
      rw [hz] at J
      have htk : tk (some q) okB (setB r) = if okB q.1 then some (setB r q.1, q.2) else none := rfl
      refine (ex_al0 dX9_readMostOf_8 (ex_iconst (v := nI 0) dX9_readMostOf_9 rfl (ex_iconst (v := nI 0) dX9_readMostOf_10 rfl (ex_bipush (v := nI 60) dX9_readMostOf_11 rfl (ex_VP3 dX9_readMostOf_13 lkX9_119 (md_sh hB) ⟨_, _, rfl⟩ ⟨(Nat.le_of_ble_eq_true rfl), (Nat.le_of_ble_eq_true rfl)⟩ ⟨Nat.le_refl _, Nat.le_refl _⟩ (Nat.le_of_ble_eq_true rfl) (m_isTold hB 0 (by omega) _ _ _) (ex_ifB_eq (tgt := 23) dX9_readMostOf_16 rfl (fun c16 => ?_) (fun c16 => ?_)))))))
      · rw [k2 0 (by omega), inB_nI (by omega) (by omega) (by omega)] at c16
        exact J M2 hfr (by rw [htk, show okB q.1 = false from decide_eq_false (by simp at c16; omega)]; rfl)
      · rw [k2 0 (by omega), inB_nI (by omega) (by omega) (by omega)] at c16
        have hok : okB q.1 = true := decide_eq_true (by simp at c16; omega)
        obtain ⟨x1, x2, x3, x4, x5, x6⟩ := hrd
        refine (ex_iconst (v := nI 1) dX9_readMostOf_19 rfl (ex_goto (tgt := 24) dX9_readMostOf_20 rfl (ex_is1 dX9_readMostOf_24 (Nat.le_of_ble_eq_true rfl) rfl (ex_al0 dX9_readMostOf_25 (ex_il1 dX9_readMostOf_26 (ex_if_eqN (tgt := 39) dX9_readMostOf_27 rfl (by omega) (fun c27 => (absurd c27 (by decide))) (fun c27 => (ex_al0 dX9_readMostOf_30 (ex_getR dX9_readMostOf_31 flX9_34 (md_sh hB) (md_r16 hB) (ex_iconst (v := nI 0) dX9_readMostOf_34 rfl (ex_ildN dX9_readMostOf_35 (md_a16 hB) (by omega) (by omega) (ex_goto (tgt := 43) dX9_readMostOf_36 rfl (ex_putI dX9_readMostOf_43 (fpX9_113 _) (md_sh hB) (ex_il1 dX9_readMostOf_46 (ex_ri dX9_readMostOf_47 rfl rfl ?_)))))))))))))))
        refine ⟨hfr.wr (by omega), by rw [htk, hok]; rfl, fun q2 hq => ?_⟩
        rw [htk, hok] at hq
        cases hq
        refine ⟨⟨?_, ?_, ?_, ?_, ?_, ?_⟩, by rw [wr_oi (by omega)]; exact k1⟩
        · rw [wr_oi (by omega), wr_oc (by omega)]; exact x1
        · rw [wr_oi (by omega), wr_oc (by omega)]; exact x2
        · rw [wr_oc (by omega)]; exact x3
        · rw [wr_s]; exact k2 0 (by omega)
        · rw [wr_oc (by omega)]; exact x5
        · rw [wr_oc (by omega)]; exact x6
