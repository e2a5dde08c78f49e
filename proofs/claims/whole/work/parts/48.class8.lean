/-! the class: the lamp -/
def ShX (M : MM) (n : Nat) (f : Nat → Nat → Bool) : Prop := ∀ i, i < n → ∀ s, s < 32 → bt (M 81 i) s = (decide (s < 24) && f i s)
def LpX (M : MM) (t : Td) (w : Nat → Option Nat) (smk : Nat → Bool) : Prop := (∀ s, s < 32 → bt (M 80 3) s = (decide (s < 24) && (w s).isSome)) ∧ (∀ i, i < 6 → ∀ s, s < 32 → bt (M 82 i) s = (decide (s < 24) && decide (w s = some i))) ∧ ∀ c, c < 4 → ∀ s, s < 32 → bt (M 83 c) s = (decide (s < 24) && decide (clo t (w s) (smk s) = c))
theorem LpX.of {M M' : MM} {t : Td} {w : Nat → Option Nat} {smk : Nat → Bool} (h : LpX M t w smk) (h1 : M' 80 = M 80) (h2 : M' 82 = M 82) (h3 : M' 83 = M 83) : LpX M' t w smk := by
  unfold LpX
  rw [h1, h2, h3]
  exact h
theorem GL {sh : Sh} {Mr : MR} {L D : Nat} (h : GX sh Mr L D) : 5 ≤ L ∧ L ≤ 15 ∧ 5 ≤ D ∧ D ≤ 15 := by
  rcases h.2.2.2.2 with ⟨rfl, rfl⟩ | ⟨rfl, rfl⟩ <;> omega
theorem GD {sh : Sh} {Mr : MR} {L D : Nat} (h : GX sh Mr L D) : L + 10 ≤ D ∨ D + 10 ≤ L := by
  rcases h.2.2.2.2 with ⟨rfl, rfl⟩ | ⟨rfl, rfl⟩ <;> omega
/-- places are in bounds -/
def plV (n : Nat) (x : St) : Prop := x.1 < 2 ^ 30 ∧ ∀ i, i < n → x.2.2.2.1 i < 24 ∧ x.2.2.2.2 i ≤ 12
theorem x_turn {sh : Sh} {Mr : MR} {L D S : Nat} (hG : GX sh Mr L D) (hS : SA sh Mr S) (hSd : S + 4 ≤ 81) (M : MM) (o : To) (ho : LdX M L o) (x : St) (hx : stX M S o.1.1 x) (hv : plV o.1.1 x) : CtV mX0_turn [.ref 80, .ref L, .ref S] sh Mr M (fun M' => (∀ c, c ≠ 81 → M' c = M c) ∧ ShX M' o.1.1 (shn o.1 (pl x))) := by
  have h6 := ho.1.2.1
  have hL := GL hG
  refine ct_of (mi := mX0_turn) (ls := [some (.ref 80), some (.ref L), some (.ref S), none]) rfl rfl (Nat.le_of_ble_eq_true rfl) rfl ?_
  refine (ex_iconst (v := nI 0) dX0_turn_0 rfl (ex_is3 dX0_turn_1 (Nat.le_of_ble_eq_true rfl) rfl ?_))
  refine ex_for (I := fun i ls M' => ls = [some (.ref 80), some (.ref L), some (.ref S), some (.int (nI i))] ∧ (∀ c, c ≠ 81 → M' c = M c) ∧ ShX M' i (shn o.1 (pl x))) o.1.1 ?_ ?_ 0 _ _ (Nat.zero_le _) ⟨rfl, fun _ _ => rfl, fun i hi => by omega⟩
  · intro i ls M1 hi h ih
    obtain ⟨rfl, f1, f2⟩ := h
    have ho1 : LdX M1 L o := ho.of (fun c e1 e2 => f1 c (by omega))
    have hx1 : stX M1 S o.1.1 x := hx.of (fun c e1 e2 => f1 c (by omega))
    obtain ⟨g1, g2, g3⟩ := hx1.2.2 i hi
    obtain ⟨k1, k2⟩ := hv.2 i hi
    refine (ex_il3 dX0_turn_2 (ex_al1 dX0_turn_3 (ex_getI dX0_turn_4 flX0_21 (la_sh (laL hG)) (ex_top (ho1.1.1) (ex_icmp_geN (tgt := 43) dX0_turn_7 rfl (by omega) (by omega) (fun c7 => (absurd c7 (by omega))) (fun c7 => (ex_al0 dX0_turn_10 (ex_getR dX0_turn_11 flX0_9 (gx80 hG) (gr80_0 hG) (ex_il3 dX0_turn_14 (ex_al1 dX0_turn_15 (ex_il3 dX0_turn_16 (ex_al2 dX0_turn_17 (ex_getR dX0_turn_18 flX0_27 (sa_sh hS) (sa_r2 hS) (ex_il3 dX0_turn_21 (ex_ildN dX0_turn_22 (sa_a2 hS) (by omega) (by omega) (ex_top (g2) (ex_al2 dX0_turn_23 (ex_getR dX0_turn_24 flX0_32 (sa_sh hS) (sa_r3 hS) (ex_il3 dX0_turn_27 (ex_ildN dX0_turn_28 (sa_a3 hS) (by omega) (by omega) (ex_top (g3) (ex_al2 dX0_turn_29 (ex_getI dX0_turn_30 flX0_35 (sa_sh hS) (ex_top (hx1.1) (ex_VI4 dX0_turn_33 lkX0_38 (la_sh (laL hG)) ⟨_, _, rfl⟩ ⟨(Nat.le_of_ble_eq_true rfl), (Nat.le_of_ble_eq_true rfl)⟩ ⟨Nat.le_refl _, Nat.le_refl _⟩ (Nat.le_of_ble_eq_true rfl) (x_shineOf (laL hG) M1 o ho1 i _ _ _ hi k1 k2 hv.1) (fun v33 M33 h33 => ?_))))))))))))))))))))))))))
    obtain ⟨rfl, q⟩ := h33
    refine (ex_istN dX0_turn_36 (gx81 hG) (by omega) (by omega) (ex_inc3 dX0_turn_37 (Nat.le_of_ble_eq_true rfl) rfl (inc1 _) (ex_goto (tgt := 2) dX0_turn_40 rfl ?_)))
    refine ih _ _ ⟨rfl, fun c e => by rw [wr_oc e]; exact f1 c e, fun k hk s hs => ?_⟩
    by_cases e : k = i
    · subst e; rw [wr_s]; exact q s hs
    · rw [wr_oi e]; exact f2 k (by omega) s hs
  · intro ls M1 h
    obtain ⟨rfl, f1, f2⟩ := h
    have ho1 : LdX M1 L o := ho.of (fun c e1 e2 => f1 c (by omega))
    refine (ex_il3 dX0_turn_2 (ex_al1 dX0_turn_3 (ex_getI dX0_turn_4 flX0_21 (la_sh (laL hG)) (ex_top (ho1.1.1) (ex_icmp_geN (tgt := 43) dX0_turn_7 rfl (by omega) (by omega) (fun c7 => (ex_rv dX0_turn_43 rfl (⟨f1, f2⟩))) (fun c7 => (absurd (Nat.le_refl _) c7)))))))
def Wf (li : Nat → Bool) (f : Nat → Nat → Bool) (n s : Nat) : Option Nat := fst (fun i => li i && f i s) n
theorem fst_si (p : Nat → Bool) (i : Nat) : fst p (i + 1) = match fst p i with | some k => some k | none => if p i then some i else none := rfl
theorem x_show {sh : Sh} {Mr : MR} {L D : Nat} (hG : GX sh Mr L D) (M : MM) (o : To) (ho : LdX M L o) (f : Nat → Nat → Bool) (hf : ShX M o.1.1 f) (li : Nat → Bool) (lit smk : Int32) (hl : ∀ i, i < o.1.1 → bt lit i = li i) : CtV mX0_show [.ref 80, .ref L, .int lit, .int smk] sh Mr M (fun M' => (∀ c, c ≠ 80 → c ≠ 82 → c ≠ 83 → M' c = M c) ∧ LpX M' o.1 (Wf li f o.1.1) (bt smk)) := by
  have h6 := ho.1.2.1
  have hL := GL hG
  have z : ∀ s, bt (nI 0) s = false := fun s => by rw [nI_0]; exact b_0 s
  refine ct_of (mi := mX0_show) (ls := [some (.ref 80), some (.ref L), some (.int lit), some (.int smk), none]) rfl rfl (Nat.le_of_ble_eq_true rfl) rfl ?_
  refine (ex_al0 dX0_show_0 (ex_iconst (v := nI 0) dX0_show_1 rfl (ex_putI dX0_show_2 (fpX0_42 _) (gx80 hG) (ex_al0 dX0_show_5 (ex_getR dX0_show_6 flX0_15 (gx80 hG) (gr80_1 hG) (ex_iconst (v := nI 0) dX0_show_9 rfl (ex_SV2 dX0_show_10 lkX0_45 ⟨(Nat.le_of_ble_eq_true rfl), (Nat.le_of_ble_eq_true rfl)⟩ ⟨Nat.le_refl _, Nat.le_refl _⟩ (Nat.le_of_ble_eq_true rfl) (x_fill 82 6 (gx82 hG) (by omega) _ _) (fun M10 h10 => ?_))))))))
  obtain ⟨a1, a2⟩ := h10
  refine (ex_al0 dX0_show_13 (ex_getR dX0_show_14 flX0_18 (gx80 hG) (gr80_2 hG) (ex_iconst (v := nI 0) dX0_show_17 rfl (ex_SV2 dX0_show_18 lkX0_45 ⟨(Nat.le_of_ble_eq_true rfl), (Nat.le_of_ble_eq_true rfl)⟩ ⟨Nat.le_refl _, Nat.le_refl _⟩ (Nat.le_of_ble_eq_true rfl) (x_fill 83 4 (gx83 hG) (by omega) _ _) (fun M18 h18 => ?_)))))
  obtain ⟨b1, b2⟩ := h18
  refine (ex_iconst (v := nI 0) dX0_show_21 rfl (ex_is4 dX0_show_22 (Nat.le_of_ble_eq_true rfl) rfl ?_))
  refine ex_for (I := fun i ls M' => ls = [some (.ref 80), some (.ref L), some (.int lit), some (.int smk), some (.int (nI i))] ∧ (∀ c, c ≠ 80 → c ≠ 82 → c ≠ 83 → M' c = M c) ∧ LpX M' o.1 (Wf li f i) (bt smk)) o.1.1 ?_ ?_ 0 _ _ (Nat.zero_le _) ⟨rfl, fun c e1 e2 e3 => by rw [b1 c e3, a1 c e2, wr_oc e1], ?_, ?_, ?_⟩
  · intro i ls M1 hi h ih
    obtain ⟨rfl, f1, f2, f3, f4⟩ := h
    have ho1 : LdX M1 L o := ho.of (fun c e1 e2 => f1 c (by omega) (by omega) (by omega))
    have hf1 := hf i hi
    rw [← f1 81 (by omega) (by omega) (by omega)] at hf1
    obtain ⟨g1, g2, -⟩ := ho1.1.2.2 i hi
    refine (ex_il4 dX0_show_24 (ex_al1 dX0_show_26 (ex_getI dX0_show_27 flX0_21 (la_sh (laL hG)) (ex_top (ho1.1.1) (ex_icmp_geN (tgt := 112) dX0_show_30 rfl (by omega) (by omega) (fun c30 => (absurd c30 (by omega))) (fun c30 => (ex_il2 dX0_show_33 (ex_il4 dX0_show_34 (ex_ishr dX0_show_36 (ex_iconst (v := nI 1) dX0_show_37 rfl (ex_iand dX0_show_38 (ex_top (bit1 lit (by omega)) (ex_iconst (v := nI 1) dX0_show_39 rfl (ex_icmp_ne (tgt := 106) dX0_show_40 rfl (fun c40 => ?_) (fun c40 => ?_)))))))))))))))
    · have hli : li i = false := by
        rw [hl i hi] at c40
        cases h : li i
        · rfl
        · exact absurd (by rw [h]; rfl) c40
      have hw : ∀ s, Wf li f (i + 1) s = Wf li f i s := fun s => by
        unfold Wf
        rw [fst_si]
        cases fst (fun i => li i && f i s) i <;> simp [hli]
      refine (ex_inc4 dX0_show_106 (Nat.le_of_ble_eq_true rfl) rfl (inc1 _) (ex_goto (tgt := 24) dX0_show_109 rfl ?_))
      refine ih _ _ ⟨rfl, f1, ?_, ?_, ?_⟩
      · intro s hs; rw [hw]; exact f2 s hs
      · intro i' hi' s hs; rw [hw]; exact f3 i' hi' s hs
      · intro c hc s hs; rw [hw]; exact f4 c hc s hs
    · have hli : li i = true := by
        rw [hl i hi] at c40
        exact bI_1.mp c40
      have hw : ∀ s, Wf li f (i + 1) s = match Wf li f i s with | some k => some k | none => if f i s then some i else none := fun s => by
        unfold Wf
        rw [fst_si]
        simp only [hli, Bool.true_and]
      refine (ex_al0 dX0_show_43 (ex_getR dX0_show_44 flX0_15 (gx80 hG) (gr80_1 hG) (ex_il4 dX0_show_47 (ex_al0 dX0_show_49 (ex_getR dX0_show_50 flX0_9 (gx80 hG) (gr80_0 hG) (ex_il4 dX0_show_53 (ex_ildN dX0_show_55 (gx81 hG) (by omega) (by omega) (ex_al0 dX0_show_56 (ex_getI dX0_show_57 flX0_42 (gx80 hG) (ex_iconst (v := (-1)) dX0_show_60 rfl (ex_ixor dX0_show_61 (ex_iand dX0_show_62 (ex_istN dX0_show_63 (gx82 hG) (by omega) (by omega) (ex_al0 dX0_show_64 (ex_dupR dX0_show_65 (ex_getI dX0_show_66 flX0_42 (gx80 hG) (ex_top (y := (M1 80 3)) (by rw [wr_oc (by omega)]) (ex_al0 dX0_show_69 (ex_getR dX0_show_70 flX0_15 (gx80 hG) (gr80_1 hG) (ex_il4 dX0_show_73 (ex_ildN dX0_show_75 (gx82 hG) (by omega) (by omega) (ex_top (wr_s) (ex_ior dX0_show_76 (ex_putI dX0_show_77 (fpX0_42 _) (gx80 hG) (ex_al0 dX0_show_80 (ex_getR dX0_show_81 flX0_18 (gx80 hG) (gr80_2 hG) (ex_al1 dX0_show_84 (ex_getR dX0_show_85 flX0_51 (la_sh (laL hG)) (la_r1 (laL hG)) (ex_il4 dX0_show_88 (ex_ildN dX0_show_90 (la_a1 (laL hG)) (by omega) (by omega) (ex_top (y := nI ((o.1.2.1 i))) (by rw [wr_oc (by omega), wr_oc (by omega)]; exact g1) (ex_dup2 dX0_show_91 (ex_ildN dX0_show_92 (gx83 hG) (by omega) (by omega) (ex_top (y := (M1 83 (o.1.2.1 i))) (by rw [wr_oc (by omega), wr_oc (by omega)]) (ex_al0 dX0_show_93 (ex_getR dX0_show_94 flX0_15 (gx80 hG) (gr80_1 hG) (ex_il4 dX0_show_97 (ex_ildN dX0_show_99 (gx82 hG) (by omega) (by omega) (ex_top (y := (M1 81 i &&& (M1 80 3 ^^^ (-1)))) (by rw [wr_oc (by omega), wr_s]) (ex_il3 dX0_show_100 (ex_iconst (v := (-1)) dX0_show_101 rfl (ex_ixor dX0_show_102 (ex_iand dX0_show_103 (ex_ior dX0_show_104 (ex_istN dX0_show_105 (gx83 hG) (by omega) (by omega) (ex_inc4 dX0_show_106 (Nat.le_of_ble_eq_true rfl) rfl (inc1 _) (ex_goto (tgt := 24) dX0_show_109 rfl ?_)))))))))))))))))))))))))))))))))))))))))))))))
      have hbv : ∀ s, s < 32 → bt (M1 81 i &&& (M1 80 3 ^^^ (-1))) s = (decide (s < 24) && (f i s && !(Wf li f i s).isSome)) := fun s hs => by
        rw [b_and, bt_not _ hs, hf1 s hs, f2 s hs]
        cases decide (s < 24) <;> simp
      generalize M1 81 i &&& (M1 80 3 ^^^ (-1)) = v at hbv
      refine ih _ _ ⟨rfl, fun c e1 e2 e3 => by rw [wr_oc e3, wr_oc e1, wr_oc e2]; exact f1 c e1 e2 e3, ?_, ?_, ?_⟩
      · intro s hs
        rw [wr_oc (by omega), wr_s, b_or, f2 s hs, hbv s hs, hw]
        cases hW : Wf li f i s with
        | none => cases decide (s < 24) <;> cases f i s <;> simp
        | some k => simp
      · intro i' hi' s hs
        rw [wr_oc (by omega), wr_oc (by omega), hw]
        by_cases e : i' = i
        · subst e
          rw [wr_s, hbv s hs]
          cases hW : Wf li f i' s with
          | none => cases decide (s < 24) <;> cases f i' s <;> simp
          | some k =>
            have := (fst_some hW).1
            simp [show ¬ k = i' by omega]
        · rw [wr_oi e, f3 i' hi' s hs]
          cases hW : Wf li f i s with
          | none =>
            have e2 : ¬ i = i' := fun h => e h.symm
            cases f i s <;> simp [e2]
          | some k => simp
      · intro c hc s hs
        rw [hw]
        by_cases e : c = o.1.2.1 i
        · subst e
          rw [wr_s, b_or, b_and, bt_not _ hs, hbv s hs, f4 _ hc s hs]
          cases hW : Wf li f i s with
          | none =>
            have e2 : ¬ 4 = o.1.2.1 i := by omega
            cases decide (s < 24) <;> cases f i s <;> cases bt smk s <;> simp [clo, e2]
          | some k => cases decide (s < 24) <;> simp
        · rw [wr_oi e, wr_oc (by omega), wr_oc (by omega), f4 c hc s hs]
          cases hW : Wf li f i s with
          | none =>
            have e2 : ¬ 4 = c := by omega
            have e3 : ¬ o.1.2.1 i = c := fun h => e h.symm
            cases decide (s < 24) <;> cases f i s <;> cases bt smk s <;> simp [clo, e2, e3]
          | some k => simp
  · intro ls M1 h
    obtain ⟨rfl, f1, f2⟩ := h
    have ho1 : LdX M1 L o := ho.of (fun c e1 e2 => f1 c (by omega) (by omega) (by omega))
    refine (ex_il4 dX0_show_24 (ex_al1 dX0_show_26 (ex_getI dX0_show_27 flX0_21 (la_sh (laL hG)) (ex_top (ho1.1.1) (ex_icmp_geN (tgt := 112) dX0_show_30 rfl (by omega) (by omega) (fun c30 => (ex_rv dX0_show_112 rfl (⟨f1, f2⟩))) (fun c30 => (absurd (Nat.le_refl _) c30)))))))
  · intro s hs
    rw [b1 80 (by omega), a1 80 (by omega), wr_s, z]
    simp [Wf, fst]
  · intro i hi s hs
    rw [b1 82 (by omega), a2 i hi, z]
    simp [Wf, fst]
  · intro c hc s hs
    rw [b2 c hc, z]
    simp [Wf, fst, clo, show ¬ 4 = c by omega]
