/-! the reference: reading -/
def TxM (B : Nat) (M : MM) (t : Tx) : Prop := M B 14 = nI t.1 ∧ t.1 ≤ 200 ∧ ∀ k, k < t.1 → M (B + 8) k = t.2 k
theorem TxM.of {B : Nat} {M M' : MM} {t : Tx} (h : TxM B M t) (h1 : M' B 14 = M B 14) (h2 : M' (B + 8) = M (B + 8)) : TxM B M' t := ⟨h1.trans h.1, h.2.1, by rw [h2]; exact h.2.2⟩
theorem m_lt {sh : Sh} {Mr : MR} {B : Nat} (hB : MD sh Mr B) (M : MM) (t : Tx) (ht : TxM B M t) (k : Nat) (hk : k < 2 ^ 31) : CtP mX9_letterAt [.ref B, .int (nI k)] sh Mr M (if k < t.1 then t.2 k else -1) := by
  have h := m_letterAt (Mr := Mr) hB k t.1 M ht.1 ht.2.1 hk
  by_cases hh : k < t.1
  · rw [if_pos hh, ht.2.2 k hh] at h; rw [if_pos hh]; exact h
  · rw [if_neg hh] at h; rw [if_neg hh]; exact h
def QRd (B : Nat) (M : MM) (n : Nat) (o : Option ((Nat → Nat) × Nat)) : Int32 → MM → Prop := fun v M' => (∀ c, c ≠ B → c ≠ B + 9 → M' c = M c) ∧ (∀ k, k ≠ 15 → M' B k = M B k) ∧ v = bI o.isSome ∧ ∀ q, o = some q → M' B 15 = nI q.2 ∧ ∀ k, k < n → M' (B + 9) k = nI (q.1 k)
theorem m_readNumbers {sh : Sh} {Mr : MR} {B : Nat} (hB : MD sh Mr B) (M : MM) (t : Tx) (ht : TxM B M t) (n a : Nat) (hn : n ≤ 5) (h15 : M B 15 = nI a) (ha : a ≤ 1000) : CtI mX9_readNumbers [.ref B, .int (nI n)] sh Mr M (QRd B M n (rdK t n (fun _ => 0) 0 a)) := by
  have h200 := ht.2.1
  generalize hR : rdK t n (fun _ => 0) 0 a = R
  refine ct_of (mi := mX9_readNumbers) (ls := [some (.ref B), some (.int (nI n)), none]) rfl rfl (Nat.le_of_ble_eq_true rfl) rfl ?_
  refine (ex_iconst (v := nI 0) dX9_readNumbers_0 rfl (ex_is2 dX9_readNumbers_1 (Nat.le_of_ble_eq_true rfl) rfl ?_))
  refine ex_down (I := fun j ls M' => ∃ k v a', k + j = n ∧ ls = [some (.ref B), some (.int (nI n)), some (.int (nI k))] ∧ (∀ c, c ≠ B → c ≠ B + 9 → M' c = M c) ∧ (∀ k, k ≠ 15 → M' B k = M B k) ∧ M' B 15 = nI a' ∧ a' ≤ 1000 ∧ (∀ i, i < k → M' (B + 9) i = nI (v i)) ∧ rdK t j v k a' = R) ?_ ?_ n _ _ ⟨0, fun _ => 0, a, by omega, rfl, fun _ _ _ => rfl, fun _ _ => rfl, h15, ha, fun i hi => by omega, hR⟩
  · intro j ls M1 h ih
    obtain ⟨k, v, a', hk, rfl, f1, f2, f3, f4, f5, f6⟩ := h
    have ht1 : TxM B M1 t := ht.of (f2 14 (by omega)) (f1 _ (by omega) (by omega))
    have f6' : rdK t (j + 1) v k a' = (match num1 t a' (if j = 0 then 59 else 44) with | none => none | some q => rdK t j (fun i => if i = k then q.1 else v i) (k + 1) q.2) := rfl
    rw [f6'] at f6
    -- the sign behind the number
    have J : ∀ (M2 : MM) (a1 x : Nat), (∀ c, c ≠ B → c ≠ B + 9 → M2 c = M c) → (∀ k, k ≠ 15 → M2 B k = M B k) → M2 B 15 = nI a1 → a1 ≤ 1100 → (∀ i, i < k → M2 (B + 9) i = nI (v i)) → M2 (B + 9) k = nI x → num1 t a' (if j = 0 then 59 else 44) = (if ltr t a1 = nI (if j = 0 then 59 else 44) then some (x, a1 + 1) else none) → EI mX9_readNumbers sh Mr (QRd B M n R) 101 [some (.ref B), some (.int (nI n)), some (.int (nI k))] [] M2 := by
      intro M2 a1 x g1 g2 g3 g4 g5 g6 g7
      have ht2 : TxM B M2 t := ht.of (g2 14 (by omega)) (g1 _ (by omega) (by omega))
      have K : EI mX9_readNumbers sh Mr (QRd B M n R) 123 [some (.ref B), some (.int (nI n)), some (.int (nI k))] [.int (nI (if j = 0 then 59 else 44)), .int (if a1 < t.1 then t.2 a1 else -1)] M2 := by
        have hiff := lt_eq (t := t) (k := a1) (s := if j = 0 then 59 else 44) (d := -1) (Or.inl rfl) (by have := sepOK j; omega)
        refine (ex_icmp_eq (tgt := 128) dX9_readNumbers_123 rfl (fun c123 => ?_) (fun c123 => ?_))
        · have c2 := hiff.mp c123
          have ha1 := ltr_lt (by have := sepOK j; omega) c2
          rw [if_pos c2] at g7
          rw [g7] at f6
          refine (ex_al0 dX9_readNumbers_128 (ex_dupR dX9_readNumbers_129 (ex_getI dX9_readNumbers_130 flX9_98 (md_sh hB) (ex_top (g3) (ex_iconst (v := nI 1) dX9_readNumbers_133 rfl (ex_iaddN dX9_readNumbers_134 (ex_putI dX9_readNumbers_135 (fpX9_98 _) (md_sh hB) (ex_inc2 dX9_readNumbers_138 (Nat.le_of_ble_eq_true rfl) rfl (inc1 _) (ex_goto (tgt := 2) dX9_readNumbers_141 rfl ?_)))))))))
          refine ih _ _ ⟨k + 1, fun i => if i = k then x else v i, a1 + 1, by omega, rfl, fun c e1 e2 => by rw [wr_oc e1]; exact g1 c e1 e2, fun k2 e => by rw [wr_oi e]; exact g2 k2 e, wr_s, by omega, fun i hi => ?_, f6⟩
          rw [wr_oc (by omega)]
          by_cases e : i = k
          · subst e; simp [g6]
          · simp only [if_neg e]; exact g5 i (by omega)
        · rw [if_neg (fun e => c123 (hiff.mpr e))] at g7
          rw [g7] at f6
          refine (ex_iconst (v := nI 0) dX9_readNumbers_126 rfl (ex_ri dX9_readNumbers_127 rfl rfl (⟨g1, g2, by rw [← f6]; rfl, fun q hq => by rw [← f6] at hq; cases hq⟩)))
      refine (ex_al0 dX9_readNumbers_101 (ex_al0 dX9_readNumbers_102 (ex_getI dX9_readNumbers_103 flX9_98 (md_sh hB) (ex_top (g3) (ex_VP1 dX9_readNumbers_106 lkX9_101 (md_sh hB) ⟨_, _, rfl⟩ ⟨(Nat.le_of_ble_eq_true rfl), (Nat.le_of_ble_eq_true rfl)⟩ ⟨Nat.le_refl _, Nat.le_refl _⟩ (Nat.le_of_ble_eq_true rfl) (m_lt hB M2 t ht2 a1 (by omega)) (ex_il2 dX9_readNumbers_109 (ex_il1 dX9_readNumbers_110 (ex_iconst (v := nI 1) dX9_readNumbers_111 rfl (ex_isubN dX9_readNumbers_112 (by omega) (ex_icmp_geN (tgt := 121) dX9_readNumbers_113 rfl (by omega) (by omega) (fun c113 => ?_) (fun c113 => ?_)))))))))))
      · refine (ex_bipush (v := nI 59) dX9_readNumbers_121 rfl ?_)
        rw [show (if j = 0 then 59 else 44) = 59 by rw [if_pos (by omega)]] at K
        exact K
      · refine (ex_bipush (v := nI 44) dX9_readNumbers_116 rfl (ex_goto (tgt := 123) dX9_readNumbers_118 rfl ?_))
        rw [show (if j = 0 then 59 else 44) = 44 by rw [if_neg (by omega)]] at K
        exact K
    refine (ex_il2 dX9_readNumbers_2 (ex_il1 dX9_readNumbers_3 (ex_icmp_geN (tgt := 144) dX9_readNumbers_4 rfl (by omega) (by omega) (fun c4 => (absurd c4 (by omega))) (fun c4 => (ex_al0 dX9_readNumbers_7 (ex_al0 dX9_readNumbers_8 (ex_getI dX9_readNumbers_9 flX9_98 (md_sh hB) (ex_top (f3) (ex_VP1 dX9_readNumbers_12 lkX9_101 (md_sh hB) ⟨_, _, rfl⟩ ⟨(Nat.le_of_ble_eq_true rfl), (Nat.le_of_ble_eq_true rfl)⟩ ⟨Nat.le_refl _, Nat.le_refl _⟩ (Nat.le_of_ble_eq_true rfl) (m_lt hB M1 t ht1 a' (by omega)) (ex_SP1 dX9_readNumbers_15 lkX9_105 ⟨(Nat.le_of_ble_eq_true rfl), (Nat.le_of_ble_eq_true rfl)⟩ ⟨Nat.le_refl _, Nat.le_refl _⟩ (Nat.le_of_ble_eq_true rfl) (m_isFigure _ _ _ _) (ex_ifB_ne (tgt := 23) dX9_readNumbers_18 rfl (fun c18 => ?_) (fun c18 => ?_))))))))))))
    · rw [lt_fig (Or.inl rfl)] at c18
      obtain ⟨d1, d2, d3⟩ := fig_val c18
      refine (ex_al0 dX9_readNumbers_23 (ex_getR dX9_readNumbers_24 flX9_34 (md_sh hB) (md_r16 hB) (ex_il2 dX9_readNumbers_27 (ex_al0 dX9_readNumbers_28 (ex_al0 dX9_readNumbers_29 (ex_getI dX9_readNumbers_30 flX9_98 (md_sh hB) (ex_top (f3) (ex_VP1 dX9_readNumbers_33 lkX9_101 (md_sh hB) ⟨_, _, rfl⟩ ⟨(Nat.le_of_ble_eq_true rfl), (Nat.le_of_ble_eq_true rfl)⟩ ⟨Nat.le_refl _, Nat.le_refl _⟩ (Nat.le_of_ble_eq_true rfl) (m_lt hB M1 t ht1 a' (by omega)) (ex_top (y := nI ((48 + dgt t a'))) (by rw [if_pos d1]; exact d2) (ex_bipush (v := nI 48) dX9_readNumbers_36 rfl (ex_isubN dX9_readNumbers_38 (by omega) (ex_top (y := nI ((dgt t a'))) (by rw [Nat.add_sub_cancel_left]) (ex_istN dX9_readNumbers_39 (md_a16 hB) (by omega) (by omega) (ex_al0 dX9_readNumbers_40 (ex_dupR dX9_readNumbers_41 (ex_getI dX9_readNumbers_42 flX9_98 (md_sh hB) (ex_top (y := nI (a')) (by rw [wr_oc (by omega)]; exact f3) (ex_iconst (v := nI 1) dX9_readNumbers_45 rfl (ex_iaddN dX9_readNumbers_46 (ex_putI dX9_readNumbers_47 (fpX9_98 _) (md_sh hB) ?_))))))))))))))))))))
      have hM2 : ∀ c, c ≠ B → c ≠ B + 9 → wr (wr M1 (B + 9) k (nI (dgt t a'))) B 15 (nI (a' + 1)) c = M c := fun c e1 e2 => by rw [wr_oc e1, wr_oc e2]; exact f1 c e1 e2
      have hM2B : ∀ k2, k2 ≠ 15 → wr (wr M1 (B + 9) k (nI (dgt t a'))) B 15 (nI (a' + 1)) B k2 = M B k2 := fun k2 e => by rw [wr_oi e, wr_oc (by omega)]; exact f2 k2 e
      have ht2 : TxM B (wr (wr M1 (B + 9) k (nI (dgt t a'))) B 15 (nI (a' + 1))) t := ht.of (hM2B 14 (by omega)) (hM2 _ (by omega) (by omega))
      have h15' : wr (wr M1 (B + 9) k (nI (dgt t a'))) B 15 (nI (a' + 1)) B 15 = nI (a' + 1) := wr_s
      have hk9 : wr (wr M1 (B + 9) k (nI (dgt t a'))) B 15 (nI (a' + 1)) (B + 9) k = nI (dgt t a') := by rw [wr_oc (by omega), wr_s]
      have hi9 : ∀ i, i < k → wr (wr M1 (B + 9) k (nI (dgt t a'))) B 15 (nI (a' + 1)) (B + 9) i = nI (v i) := fun i hi => by rw [wr_oc (by omega), wr_oi (by omega)]; exact f5 i hi
      generalize wr (wr M1 (B + 9) k (nI (dgt t a'))) B 15 (nI (a' + 1)) = M2 at hM2 hM2B ht2 h15' hk9 hi9 ⊢
      refine (ex_al0 dX9_readNumbers_50 (ex_al0 dX9_readNumbers_51 (ex_getI dX9_readNumbers_52 flX9_98 (md_sh hB) (ex_top (h15') (ex_VP1 dX9_readNumbers_55 lkX9_101 (md_sh hB) ⟨_, _, rfl⟩ ⟨(Nat.le_of_ble_eq_true rfl), (Nat.le_of_ble_eq_true rfl)⟩ ⟨Nat.le_refl _, Nat.le_refl _⟩ (Nat.le_of_ble_eq_true rfl) (m_lt hB M2 t ht2 (a' + 1) (by omega)) (ex_SP1 dX9_readNumbers_58 lkX9_105 ⟨(Nat.le_of_ble_eq_true rfl), (Nat.le_of_ble_eq_true rfl)⟩ ⟨Nat.le_refl _, Nat.le_refl _⟩ (Nat.le_of_ble_eq_true rfl) (m_isFigure _ _ _ _) (ex_ifB_eq (tgt := 101) dX9_readNumbers_61 rfl (fun c61 => ?_) (fun c61 => ?_))))))))
      · rw [lt_fig (Or.inl rfl)] at c61
        exact J M2 (a' + 1) (dgt t a') hM2 hM2B h15' (by omega) hi9 hk9 (by unfold num1; rw [c18, c61]; rfl)
      · rw [lt_fig (Or.inl rfl)] at c61
        obtain ⟨e1, e2, e3⟩ := fig_val c61
        refine (ex_al0 dX9_readNumbers_64 (ex_getR dX9_readNumbers_65 flX9_34 (md_sh hB) (md_r16 hB) (ex_il2 dX9_readNumbers_68 (ex_bipush (v := nI 10) dX9_readNumbers_69 rfl (ex_al0 dX9_readNumbers_71 (ex_getR dX9_readNumbers_72 flX9_34 (md_sh hB) (md_r16 hB) (ex_il2 dX9_readNumbers_75 (ex_ildN dX9_readNumbers_76 (md_a16 hB) (by omega) (by omega) (ex_top (hk9) (ex_imulN dX9_readNumbers_77 (ex_al0 dX9_readNumbers_78 (ex_al0 dX9_readNumbers_79 (ex_getI dX9_readNumbers_80 flX9_98 (md_sh hB) (ex_top (h15') (ex_VP1 dX9_readNumbers_83 lkX9_101 (md_sh hB) ⟨_, _, rfl⟩ ⟨(Nat.le_of_ble_eq_true rfl), (Nat.le_of_ble_eq_true rfl)⟩ ⟨Nat.le_refl _, Nat.le_refl _⟩ (Nat.le_of_ble_eq_true rfl) (m_lt hB M2 t ht2 (a' + 1) (by omega)) (ex_top (y := nI ((48 + dgt t (a' + 1)))) (by rw [if_pos e1]; exact e2) (ex_iaddN dX9_readNumbers_86 (ex_bipush (v := nI 48) dX9_readNumbers_87 rfl (ex_isubN dX9_readNumbers_89 (by omega) (ex_top (y := nI ((10 * dgt t a' + dgt t (a' + 1)))) (by congr 1; omega) (ex_istN dX9_readNumbers_90 (md_a16 hB) (by omega) (by omega) (ex_al0 dX9_readNumbers_91 (ex_dupR dX9_readNumbers_92 (ex_getI dX9_readNumbers_93 flX9_98 (md_sh hB) (ex_top (y := nI ((a' + 1))) (by rw [wr_oc (by omega)]; exact h15') (ex_iconst (v := nI 1) dX9_readNumbers_96 rfl (ex_iaddN dX9_readNumbers_97 (ex_putI dX9_readNumbers_98 (fpX9_98 _) (md_sh hB) ?_))))))))))))))))))))))))))))
        refine J _ (a' + 1 + 1) (10 * dgt t a' + dgt t (a' + 1)) (fun c q1 q2 => by rw [wr_oc q1, wr_oc q2]; exact hM2 c q1 q2) (fun k2 q => by rw [wr_oi q, wr_oc (by omega)]; exact hM2B k2 q) wr_s (by omega) (fun i hi => by rw [wr_oc (by omega), wr_oi (by omega)]; exact hi9 i hi) (by rw [wr_oc (by omega), wr_s]) ?_
        unfold num1; rw [c18, c61]; rfl
    · rw [lt_fig (Or.inl rfl)] at c18
      have hno : num1 t a' (if j = 0 then 59 else 44) = none := by unfold num1; rw [c18]; rfl
      rw [hno] at f6
      refine (ex_iconst (v := nI 0) dX9_readNumbers_21 rfl (ex_ri dX9_readNumbers_22 rfl rfl (⟨f1, f2, by rw [← f6]; rfl, fun q hq => by rw [← f6] at hq; cases hq⟩)))
  · intro ls M1 h
    obtain ⟨k, v, a', hk, rfl, f1, f2, f3, f4, f5, f6⟩ := h
    have f6' : rdK t 0 v k a' = some (v, a') := rfl
    rw [f6'] at f6
    refine (ex_il2 dX9_readNumbers_2 (ex_il1 dX9_readNumbers_3 (ex_icmp_geN (tgt := 144) dX9_readNumbers_4 rfl (by omega) (by omega) (fun c4 => (ex_iconst (v := nI 1) dX9_readNumbers_144 rfl (ex_ri dX9_readNumbers_145 rfl rfl (⟨f1, f2, by rw [← f6]; rfl, fun q hq => by rw [← f6] at hq; cases hq; exact ⟨f3, fun i hi => f5 i (by omega)⟩⟩)))) (fun c4 => (absurd (by omega) c4)))))
/-- what the reference has read -/
def RdM (B : Nat) (M : MM) (r : Rd) : Prop := (M B 17 = nI r.1.1.1 ∧ ∀ i, i < r.1.1.1 → M (B + 10) (3 * i) = nI (r.1.1.2.1 i) ∧ M (B + 10) (3 * i + 1) = r.1.1.2.2.1 i ∧ M (B + 10) (3 * i + 2) = nI (r.1.1.2.2.2 i)) ∧ (M B 19 = nI r.1.2.1.1 ∧ ∀ k, k < r.1.2.1.1 → M (B + 11) (2 * k) = nI (r.1.2.1.2.1 k) ∧ M (B + 11) (2 * k + 1) = nI (r.1.2.1.2.2 k)) ∧ (∀ f, f < 4 → M (B + 12) f = nI (r.1.2.2.1 f)) ∧ M B 22 = r.1.2.2.2 ∧ (∀ j, j < 8 → M (B + 13) j = nI 0) ∧ ∀ i, i < r.1.1.1 → M (B + 13) (8 + i) = nI (r.2.1 i) ∧ M (B + 13) (14 + i) = nI (r.2.2 i)
theorem RdM.of {B : Nat} {M M' : MM} {r : Rd} (h : RdM B M r) (hb : ∀ k, k = 17 ∨ k = 19 ∨ k = 22 → M' B k = M B k) (hc : ∀ c, B + 10 ≤ c → c ≤ B + 13 → M' c = M c) : RdM B M' r := by
  obtain ⟨⟨a1, a2⟩, ⟨b1, b2⟩, c1, d1, e1, e2⟩ := h
  refine ⟨⟨(hb 17 (by simp)).trans a1, ?_⟩, ⟨(hb 19 (by simp)).trans b1, ?_⟩, ?_, (hb 22 (by simp)).trans d1, ?_, ?_⟩
  · rw [hc (B + 10) (by omega) (by omega)]; exact a2
  · rw [hc (B + 11) (by omega) (by omega)]; exact b2
  · rw [hc (B + 12) (by omega) (by omega)]; exact c1
  · rw [hc (B + 13) (by omega) (by omega)]; exact e1
  · rw [hc (B + 13) (by omega) (by omega)]; exact e2
/-- reading touches nothing but what is read -/
def FrR (B : Nat) (M M' : MM) : Prop := (∀ c, c < B ∨ (B + 1 ≤ c ∧ c ≤ B + 8) ∨ B + 14 ≤ c → M' c = M c) ∧ ∀ k, k ≠ 15 → k ≠ 17 → k ≠ 19 → k ≠ 22 → M' B k = M B k
theorem FrR.rf {B : Nat} {M : MM} : FrR B M M := ⟨fun _ _ => rfl, fun _ _ _ _ _ => rfl⟩
theorem FrR.tr {B : Nat} {M M1 M2 : MM} (h : FrR B M M1) (h2 : FrR B M1 M2) : FrR B M M2 := ⟨fun c hc => (h2.1 c hc).trans (h.1 c hc), fun k a b c d => (h2.2 k a b c d).trans (h.2 k a b c d)⟩
theorem FrR.wr {B c i : Nat} {M M' : MM} {x : Int32} (h : FrR B M M') (hc : (c = B ∧ (i = 15 ∨ i = 17 ∨ i = 19 ∨ i = 22)) ∨ (B + 9 ≤ c ∧ c ≤ B + 13)) : FrR B M (wr M' c i x) := by
  refine ⟨fun c2 h2 => ?_, fun k a1 a2 a3 a4 => ?_⟩
  · by_cases e : c2 = c
    · exfalso; omega
    · rw [wr_oc e]; exact h.1 c2 h2
  · by_cases e : c = B
    · subst e
      rw [wr_oi (by omega)]; exact h.2 k a1 a2 a3 a4
    · rw [wr_oc (Ne.symm e)]; exact h.2 k a1 a2 a3 a4
theorem FrR.rd {B n : Nat} {M M' : MM} {o : Option ((Nat → Nat) × Nat)} {v : Int32} (h : QRd B M n o v M') : FrR B M M' := ⟨fun c hc => h.1 c (by omega) (by omega), fun k a1 _ _ _ => h.2.1 k a1⟩
theorem m_tells {sh : Sh} {Mr : MR} {B : Nat} (hB : MD sh Mr B) (M : MM) (r : Rd) (hr : RdM B M r) (v : Nat → Nat) (h6 : r.1.1.1 < 6) : CtV mX9_tells [.ref B, .int (nI (v 0)), .int (nI (v 1)), .int (nI (v 2)), .int (nI (v 3)), .int (nI (v 4))] sh Mr M (fun M' => RdM B M' (addT r v) ∧ FrR B M M' ∧ M' B 15 = M B 15) := by
  obtain ⟨⟨a1, a2⟩, ⟨b1, b2⟩, c1, d1, e1, e2⟩ := id hr
  refine ct_of (mi := mX9_tells) (ls := [some (.ref B), some (.int (nI (v 0))), some (.int (nI (v 1))), some (.int (nI (v 2))), some (.int (nI (v 3))), some (.int (nI (v 4)))]) rfl rfl (Nat.le_of_ble_eq_true rfl) rfl ?_
  refine (ex_al0 dX9_tells_0 (ex_getR dX9_tells_1 flX9_37 (md_sh hB) (md_r18 hB) (ex_iconst (v := nI 3) dX9_tells_4 rfl (ex_al0 dX9_tells_5 (ex_getI dX9_tells_6 flX9_78 (md_sh hB) (ex_top (a1) (ex_imulN dX9_tells_9 (ex_il1 dX9_tells_10 (ex_istN dX9_tells_11 (md_a18 hB) (by omega) (by omega) (ex_al0 dX9_tells_12 (ex_getR dX9_tells_13 flX9_37 (md_sh hB) (md_r18 hB) (ex_iconst (v := nI 3) dX9_tells_16 rfl (ex_al0 dX9_tells_17 (ex_getI dX9_tells_18 flX9_78 (md_sh hB) (ex_top (y := nI (r.1.1.1)) (by rw [wr_oc (by omega)]; exact a1) (ex_imulN dX9_tells_21 (ex_iconst (v := nI 1) dX9_tells_22 rfl (ex_iaddN dX9_tells_23 (ex_il4 dX9_tells_24 (ex_istN dX9_tells_26 (md_a18 hB) (by omega) (by omega) (ex_al0 dX9_tells_27 (ex_getR dX9_tells_28 flX9_37 (md_sh hB) (md_r18 hB) (ex_iconst (v := nI 3) dX9_tells_31 rfl (ex_al0 dX9_tells_32 (ex_getI dX9_tells_33 flX9_78 (md_sh hB) (ex_top (y := nI (r.1.1.1)) (by rw [wr_oc (by omega), wr_oc (by omega)]; exact a1) (ex_imulN dX9_tells_36 (ex_iconst (v := nI 2) dX9_tells_37 rfl (ex_iaddN dX9_tells_38 (ex_il5 dX9_tells_39 (ex_istN dX9_tells_41 (md_a18 hB) (by omega) (by omega) (ex_al0 dX9_tells_42 (ex_getR dX9_tells_43 flX9_46 (md_sh hB) (md_r23 hB) (ex_bipush (v := nI 8) dX9_tells_46 rfl (ex_al0 dX9_tells_48 (ex_getI dX9_tells_49 flX9_78 (md_sh hB) (ex_top (y := nI (r.1.1.1)) (by rw [wr_oc (by omega), wr_oc (by omega), wr_oc (by omega)]; exact a1) (ex_iaddN dX9_tells_52 (ex_il2 dX9_tells_53 (ex_istN dX9_tells_54 (md_a23 hB) (by omega) (by omega) (ex_al0 dX9_tells_55 (ex_getR dX9_tells_56 flX9_46 (md_sh hB) (md_r23 hB) (ex_bipush (v := nI 14) dX9_tells_59 rfl (ex_al0 dX9_tells_61 (ex_getI dX9_tells_62 flX9_78 (md_sh hB) (ex_top (y := nI (r.1.1.1)) (by rw [wr_oc (by omega), wr_oc (by omega), wr_oc (by omega), wr_oc (by omega)]; exact a1) (ex_iaddN dX9_tells_65 (ex_il3 dX9_tells_66 (ex_istN dX9_tells_67 (md_a23 hB) (by omega) (by omega) (ex_al0 dX9_tells_68 (ex_dupR dX9_tells_69 (ex_getI dX9_tells_70 flX9_78 (md_sh hB) (ex_top (y := nI (r.1.1.1)) (by rw [wr_oc (by omega), wr_oc (by omega), wr_oc (by omega), wr_oc (by omega), wr_oc (by omega)]; exact a1) (ex_iconst (v := nI 1) dX9_tells_73 rfl (ex_iaddN dX9_tells_74 (ex_putI dX9_tells_75 (fpX9_78 _) (md_sh hB) (ex_rv dX9_tells_78 rfl ?_)))))))))))))))))))))))))))))))))))))))))))))))))))))))))
  refine ⟨⟨⟨wr_s, fun i hi => ?_⟩, ⟨?_, ?_⟩, ?_, ?_, ?_, fun i hi => ?_⟩, ?_, ?_⟩
  · have hi : i < r.1.1.1 + 1 := hi
    simp only [addT, up]
    rw [wr_oc (by omega), wr_oc (by omega), wr_oc (by omega)]
    by_cases e : i = r.1.1.1
    · subst e
      simp only [if_true]
      refine ⟨?_, ?_, wr_s⟩
      · rw [wr_oi (by omega), wr_oi (by omega), wr_s]
      · rw [wr_oi (by omega), wr_s]
    · simp only [if_neg e]
      rw [wr_oi (by omega), wr_oi (by omega), wr_oi (by omega), wr_oi (by omega), wr_oi (by omega), wr_oi (by omega), wr_oi (by omega), wr_oi (by omega), wr_oi (by omega)]
      exact a2 i (by omega)
  · rw [wr_oi (by omega), wr_oc (by omega), wr_oc (by omega), wr_oc (by omega), wr_oc (by omega), wr_oc (by omega)]; exact b1
  · rw [wr_oc (by omega), wr_oc (by omega), wr_oc (by omega), wr_oc (by omega), wr_oc (by omega), wr_oc (by omega)]; exact b2
  · rw [wr_oc (by omega), wr_oc (by omega), wr_oc (by omega), wr_oc (by omega), wr_oc (by omega), wr_oc (by omega)]; exact c1
  · rw [wr_oi (by omega), wr_oc (by omega), wr_oc (by omega), wr_oc (by omega), wr_oc (by omega), wr_oc (by omega)]; exact d1
  · intro j hj
    rw [wr_oc (by omega), wr_oi (by omega), wr_oi (by omega), wr_oc (by omega), wr_oc (by omega), wr_oc (by omega)]; exact e1 j hj
  · have hi : i < r.1.1.1 + 1 := hi
    simp only [addT, up]
    rw [wr_oc (by omega)]
    by_cases e : i = r.1.1.1
    · subst e
      simp only [if_true]
      refine ⟨?_, wr_s⟩
      rw [wr_oi (by omega), wr_s]
    · simp only [if_neg e]
      rw [wr_oi (by omega), wr_oi (by omega), wr_oi (by omega), wr_oi (by omega), wr_oc (by omega), wr_oc (by omega), wr_oc (by omega)]
      exact e2 i (by omega)
  · exact ((((((FrR.rf).wr (by omega)).wr (by omega)).wr (by omega)).wr (by omega)).wr (by omega)).wr (by omega)
  · rw [wr_oi (by omega), wr_oc (by omega), wr_oc (by omega), wr_oc (by omega), wr_oc (by omega), wr_oc (by omega)]
theorem m_tellsShip {sh : Sh} {Mr : MR} {B : Nat} (hB : MD sh Mr B) (M : MM) (r : Rd) (hr : RdM B M r) (v : Nat → Nat) (h6 : r.1.2.1.1 < 5) : CtV mX9_tellsShip [.ref B, .int (nI (v 0)), .int (nI (v 1))] sh Mr M (fun M' => RdM B M' (addS r v) ∧ FrR B M M' ∧ M' B 15 = M B 15) := by
  obtain ⟨⟨a1, a2⟩, ⟨b1, b2⟩, c1, d1, e1, e2⟩ := id hr
  refine ct_of (mi := mX9_tellsShip) (ls := [some (.ref B), some (.int (nI (v 0))), some (.int (nI (v 1)))]) rfl rfl (Nat.le_of_ble_eq_true rfl) rfl ?_
  refine (ex_al0 dX9_tellsShip_0 (ex_getR dX9_tellsShip_1 flX9_40 (md_sh hB) (md_r20 hB) (ex_iconst (v := nI 2) dX9_tellsShip_4 rfl (ex_al0 dX9_tellsShip_5 (ex_getI dX9_tellsShip_6 flX9_82 (md_sh hB) (ex_top (b1) (ex_imulN dX9_tellsShip_9 (ex_il1 dX9_tellsShip_10 (ex_istN dX9_tellsShip_11 (md_a20 hB) (by omega) (by omega) (ex_al0 dX9_tellsShip_12 (ex_getR dX9_tellsShip_13 flX9_40 (md_sh hB) (md_r20 hB) (ex_iconst (v := nI 2) dX9_tellsShip_16 rfl (ex_al0 dX9_tellsShip_17 (ex_getI dX9_tellsShip_18 flX9_82 (md_sh hB) (ex_top (y := nI (r.1.2.1.1)) (by rw [wr_oc (by omega)]; exact b1) (ex_imulN dX9_tellsShip_21 (ex_iconst (v := nI 1) dX9_tellsShip_22 rfl (ex_iaddN dX9_tellsShip_23 (ex_il2 dX9_tellsShip_24 (ex_istN dX9_tellsShip_25 (md_a20 hB) (by omega) (by omega) (ex_al0 dX9_tellsShip_26 (ex_dupR dX9_tellsShip_27 (ex_getI dX9_tellsShip_28 flX9_82 (md_sh hB) (ex_top (y := nI (r.1.2.1.1)) (by rw [wr_oc (by omega), wr_oc (by omega)]; exact b1) (ex_iconst (v := nI 1) dX9_tellsShip_31 rfl (ex_iaddN dX9_tellsShip_32 (ex_putI dX9_tellsShip_33 (fpX9_82 _) (md_sh hB) (ex_rv dX9_tellsShip_36 rfl ?_))))))))))))))))))))))))))))
  refine ⟨⟨⟨?_, ?_⟩, ⟨wr_s, fun i hi => ?_⟩, ?_, ?_, ?_, ?_⟩, ?_, ?_⟩
  · rw [wr_oi (by omega), wr_oc (by omega), wr_oc (by omega)]; exact a1
  · rw [wr_oc (by omega), wr_oc (by omega), wr_oc (by omega)]; exact a2
  · have hi : i < r.1.2.1.1 + 1 := hi
    simp only [addS, up]
    rw [wr_oc (by omega)]
    by_cases e : i = r.1.2.1.1
    · subst e
      simp only [if_true]
      refine ⟨?_, wr_s⟩
      rw [wr_oi (by omega), wr_s]
    · simp only [if_neg e]
      rw [wr_oi (by omega), wr_oi (by omega), wr_oi (by omega), wr_oi (by omega)]
      exact b2 i (by omega)
  · rw [wr_oc (by omega), wr_oc (by omega), wr_oc (by omega)]; exact c1
  · rw [wr_oi (by omega), wr_oc (by omega), wr_oc (by omega)]; exact d1
  · rw [wr_oc (by omega), wr_oc (by omega), wr_oc (by omega)]; exact e1
  · rw [wr_oc (by omega), wr_oc (by omega), wr_oc (by omega)]; exact e2
  · exact (((FrR.rf).wr (by omega)).wr (by omega)).wr (by omega)
  · rw [wr_oi (by omega), wr_oc (by omega), wr_oc (by omega)]
