/-! the reference: signs, sure ships -/
abbrev Sd : Type := Nat × (Nat → Nat) × (Nat → Nat)
def ShM (B : Nat) (M : MM) (d : Sd) : Prop := M B 2 = nI d.1 ∧ d.1 ≤ 5 ∧ ∀ k, k < d.1 → M (B + 2) (2 * k) = nI (d.2.1 k) ∧ d.2.1 k < 24 ∧ M (B + 2) (2 * k + 1) = nI (d.2.2 k) ∧ d.2.2 k ≤ 12
theorem ShM.of {B : Nat} {M M' : MM} {d : Sd} (h : ShM B M d) (h0 : M' B 2 = M B 2) (h1 : M' (B + 2) = M (B + 2)) : ShM B M' d := by
  refine ⟨h0.trans h.1, h.2.1, fun i hi => ?_⟩
  rw [h1]
  exact h.2.2 i hi
/-- ship k is sure in fog f -/
def sur (cl : Nat → Nat) (d : Sd) (f k : Nat) : Bool := (sgn cl (seb (d.2.1 k) (d.2.2 k)) f).isSome
theorem m_isSeen (c f : Nat) (hc : c ≤ 4) (hf : f < 4) (sh : Sh) (Mr : MR) (M : MM) : CtP mX9_isSeen [.int (nI c), .int (nI f)] sh Mr M (bI (decide (c + f < 4))) := by
  refine ct_of (mi := mX9_isSeen) (ls := [some (.int (nI c)), some (.int (nI f))]) rfl rfl (Nat.le_of_ble_eq_true rfl) rfl ?_
  have J1 : EI mX9_isSeen sh Mr (fun x M' => x = nI 1 ∧ M' = M) 33 [some (.int (nI c)), some (.int (nI f))] [] M := by
    refine (ex_iconst (v := nI 1) dX9_isSeen_33 rfl (ex_goto (tgt := 38) dX9_isSeen_34 rfl (ex_ri dX9_isSeen_38 rfl rfl (⟨rfl, rfl⟩))))
  have J0 : EI mX9_isSeen sh Mr (fun x M' => x = nI 0 ∧ M' = M) 37 [some (.int (nI c)), some (.int (nI f))] [] M := by
    refine (ex_iconst (v := nI 0) dX9_isSeen_37 rfl (ex_ri dX9_isSeen_38 rfl rfl (⟨rfl, rfl⟩)))
  by_cases h : c + f < 4
  · rw [decide_eq_true h, bI_t]
    refine (ex_il0 dX9_isSeen_0 (ex_iconst (v := nI 4) dX9_isSeen_1 rfl (ex_icmp_eqN (tgt := 37) dX9_isSeen_2 rfl (by omega) (by omega) (fun c2 => (False.elim (by omega))) (fun c2 => (ex_il1 dX9_isSeen_5 (ex_if_eqN (tgt := 33) dX9_isSeen_6 rfl (by omega) (fun c6 => ?_) (fun c6 => ?_)))))))
    · exact J1
    · refine (ex_il1 dX9_isSeen_9 (ex_iconst (v := nI 1) dX9_isSeen_10 rfl (ex_icmp_neN (tgt := 19) dX9_isSeen_11 rfl (by omega) (by omega) (fun c11 => ?_) (fun c11 => ?_))))
      · refine (ex_il1 dX9_isSeen_19 (ex_iconst (v := nI 2) dX9_isSeen_20 rfl (ex_icmp_neN (tgt := 29) dX9_isSeen_21 rfl (by omega) (by omega) (fun c21 => ?_) (fun c21 => ?_))))
        · refine (ex_il0 dX9_isSeen_29 (ex_if_neN (tgt := 37) dX9_isSeen_30 rfl (by omega) (fun c30 => (False.elim (by omega))) (fun c30 => ?_)))
          exact J1
        · refine (ex_il0 dX9_isSeen_24 (ex_iconst (v := nI 2) dX9_isSeen_25 rfl (ex_icmp_ltN (tgt := 33) dX9_isSeen_26 rfl (by omega) (by omega) (fun c26 => ?_) (fun c26 => (False.elim (by omega))))))
          exact J1
      · refine (ex_il0 dX9_isSeen_14 (ex_iconst (v := nI 3) dX9_isSeen_15 rfl (ex_icmp_neN (tgt := 33) dX9_isSeen_16 rfl (by omega) (by omega) (fun c16 => ?_) (fun c16 => (False.elim (by omega))))))
        exact J1
  · rw [decide_eq_false h, bI_f]
    refine (ex_il0 dX9_isSeen_0 (ex_iconst (v := nI 4) dX9_isSeen_1 rfl (ex_icmp_eqN (tgt := 37) dX9_isSeen_2 rfl (by omega) (by omega) (fun c2 => ?_) (fun c2 => ?_))))
    · exact J0
    · refine (ex_il1 dX9_isSeen_5 (ex_if_eqN (tgt := 33) dX9_isSeen_6 rfl (by omega) (fun c6 => (False.elim (by omega))) (fun c6 => (ex_il1 dX9_isSeen_9 (ex_iconst (v := nI 1) dX9_isSeen_10 rfl (ex_icmp_neN (tgt := 19) dX9_isSeen_11 rfl (by omega) (by omega) (fun c11 => ?_) (fun c11 => ?_)))))))
      · refine (ex_il1 dX9_isSeen_19 (ex_iconst (v := nI 2) dX9_isSeen_20 rfl (ex_icmp_neN (tgt := 29) dX9_isSeen_21 rfl (by omega) (by omega) (fun c21 => ?_) (fun c21 => ?_))))
        · refine (ex_il0 dX9_isSeen_29 (ex_if_neN (tgt := 37) dX9_isSeen_30 rfl (by omega) (fun c30 => ?_) (fun c30 => (False.elim (by omega)))))
          exact J0
        · refine (ex_il0 dX9_isSeen_24 (ex_iconst (v := nI 2) dX9_isSeen_25 rfl (ex_icmp_ltN (tgt := 33) dX9_isSeen_26 rfl (by omega) (by omega) (fun c26 => (False.elim (by omega))) (fun c26 => (ex_il0 dX9_isSeen_29 (ex_if_neN (tgt := 37) dX9_isSeen_30 rfl (by omega) (fun c30 => ?_) (fun c30 => (False.elim (by omega)))))))))
          exact J0
      · refine (ex_il0 dX9_isSeen_14 (ex_iconst (v := nI 3) dX9_isSeen_15 rfl (ex_icmp_neN (tgt := 33) dX9_isSeen_16 rfl (by omega) (by omega) (fun c16 => (False.elim (by omega))) (fun c16 => (ex_il1 dX9_isSeen_19 (ex_iconst (v := nI 2) dX9_isSeen_20 rfl (ex_icmp_neN (tgt := 29) dX9_isSeen_21 rfl (by omega) (by omega) (fun c21 => (ex_il0 dX9_isSeen_29 (ex_if_neN (tgt := 37) dX9_isSeen_30 rfl (by omega) (fun c30 => ?_) (fun c30 => (False.elim (by omega)))))) (fun c21 => (False.elim (by omega))))))))))
        exact J0
theorem m_sees {sh : Sh} {Mr : MR} {B : Nat} (hB : MD sh Mr B) (M : MM) (d : Sd) (hd : ShM B M d) (k s : Nat) (hk : k < d.1) (hs : s < 24) : CtP mX9_sees [.ref B, .int (nI k), .int (nI s)] sh Mr M (bI (seb (d.2.1 k) (d.2.2 k) s)) := by
  have h5 := hd.2.1
  obtain ⟨e1, e2, e3, e4⟩ := hd.2.2 k hk
  refine ct_of (mi := mX9_sees) (ls := [some (.ref B), some (.int (nI k)), some (.int (nI s))]) rfl rfl (Nat.le_of_ble_eq_true rfl) rfl ?_
  refine (ex_il2 dX9_sees_0 (ex_bipush (v := nI 24) dX9_sees_1 rfl (ex_iaddN dX9_sees_3 (ex_al0 dX9_sees_4 (ex_getR dX9_sees_5 flX9_13 (md_sh hB) (md_r3 hB) (ex_iconst (v := nI 2) dX9_sees_8 rfl (ex_il1 dX9_sees_9 (ex_imulN dX9_sees_10 (ex_ildN dX9_sees_11 (md_a3 hB) (by omega) (by omega) (ex_top (e1) (ex_isubN dX9_sees_12 (by omega) (ex_bipush (v := nI 24) dX9_sees_13 rfl (ex_iremN dX9_sees_15 ⟨by omega, by omega, by omega⟩ (ex_al0 dX9_sees_16 (ex_getR dX9_sees_17 flX9_13 (md_sh hB) (md_r3 hB) (ex_iconst (v := nI 2) dX9_sees_20 rfl (ex_il1 dX9_sees_21 (ex_imulN dX9_sees_22 (ex_iconst (v := nI 1) dX9_sees_23 rfl (ex_iaddN dX9_sees_24 (ex_ildN dX9_sees_25 (md_a3 hB) (by omega) (by omega) (ex_top (e3) (ex_icmp_geN (tgt := 33) dX9_sees_26 rfl (by omega) (by omega) (fun c26 => ?_) (fun c26 => ?_))))))))))))))))))))))))
  · refine (ex_iconst (v := nI 0) dX9_sees_33 rfl (ex_ri dX9_sees_34 rfl rfl (⟨bI_ff (decide_eq_false (by unfold bh; omega)), rfl⟩)))
  · refine (ex_iconst (v := nI 1) dX9_sees_29 rfl (ex_goto (tgt := 34) dX9_sees_30 rfl (ex_ri dX9_sees_34 rfl rfl (⟨bI_tt (decide_eq_true (by unfold bh; omega)), rfl⟩))))
theorem m_signOf {sh : Sh} {Mr : MR} {B : Nat} (hB : MD sh Mr B) (M : MM) (d : Sd) (hd : ShM B M d) (cl : Nat → Nat) (hcl : ∀ s, s < 24 → M (B + 16) s = nI (cl s) ∧ cl s ≤ 4) (k f : Nat) (hk : k < d.1) (hf : f < 4) : CtP mX9_signOf [.ref B, .int (nI k), .int (nI f)] sh Mr M (wI (sgn cl (seb (d.2.1 k) (d.2.2 k)) f)) := by
  have h5 := hd.2.1
  have hse := fun s hs => m_sees (Mr := Mr) hB M d hd k s hk hs
  generalize seb (d.2.1 k) (d.2.2 k) = se at hse ⊢
  refine ct_of (mi := mX9_signOf) (ls := [some (.ref B), some (.int (nI k)), some (.int (nI f)), none, none, none, none]) rfl rfl (Nat.le_of_ble_eq_true rfl) rfl ?_
  refine (ex_iconst (v := nI 0) dX9_signOf_0 rfl (ex_is3 dX9_signOf_1 (Nat.le_of_ble_eq_true rfl) rfl ?_))
  refine ex_for (I := fun c ls M' => (∃ o4 o5 o6, ls = [some (.ref B), some (.int (nI k)), some (.int (nI f)), some (.int (nI c)), o4, o5, o6]) ∧ (∀ j, j < c → sgp cl se f j = false) ∧ M' = M) 4 ?_ ?_ 0 _ _ (Nat.zero_le _) ⟨⟨_, _, _, rfl⟩, fun j hj => by omega, rfl⟩
  · intro c ls M' hc h ihc
    obtain ⟨⟨o4, o5, o6, rfl⟩, hno, rfl⟩ := h
    refine (ex_il3 dX9_signOf_2 (ex_iconst (v := nI 4) dX9_signOf_3 rfl (ex_icmp_geN (tgt := 121) dX9_signOf_4 rfl (by omega) (by omega) (fun c4 => (absurd c4 (by omega))) (fun c4 => (ex_iconst (v := nI 0) dX9_signOf_7 rfl (ex_is4 dX9_signOf_8 (Nat.le_of_ble_eq_true rfl) rfl (ex_iconst (v := nI 0) dX9_signOf_10 rfl (ex_is5 dX9_signOf_11 (Nat.le_of_ble_eq_true rfl) rfl (ex_iconst (v := nI 0) dX9_signOf_13 rfl (ex_is6 dX9_signOf_14 (Nat.le_of_ble_eq_true rfl) rfl ?_))))))))))
    refine ex_for (I := fun s ls M'' => ls = [some (.ref B), some (.int (nI k)), some (.int (nI f)), some (.int (nI c)), some (.int (bI (anyb (fun s => decide (cl s = c) && se s) s))), some (.int (bI (anyb (fun s => decide (cl s = c) && !(se s)) s))), some (.int (nI s))] ∧ M'' = M') 24 ?_ ?_ 0 _ _ (Nat.zero_le _) ⟨rfl, rfl⟩
    · intro s ls M'' hs h ih
      obtain ⟨rfl, rfl⟩ := h
      obtain ⟨g1, g2⟩ := hcl s hs
      generalize hp1 : (fun s => decide (cl s = c) && se s) = p1 at ih ⊢
      generalize hp2 : (fun s => decide (cl s = c) && !(se s)) = p2 at ih ⊢
      have e1 : p1 s = (decide (cl s = c) && se s) := by rw [← hp1]
      have e2 : p2 s = (decide (cl s = c) && !(se s)) := by rw [← hp2]
      have a1 : anyb p1 (s + 1) = (anyb p1 s || p1 s) := rfl
      have a2 : anyb p2 (s + 1) = (anyb p2 s || p2 s) := rfl
      have J2 : EI mX9_signOf sh Mr (fun x M' => x = wI (sgn cl se f) ∧ M' = M'') 87 [some (.ref B), some (.int (nI k)), some (.int (nI f)), some (.int (nI c)), some (.int (bI (anyb p1 (s + 1)))), some (.int (bI (anyb p2 s))), some (.int (nI s))] [.int (bI (anyb p2 (s + 1)))] M'' := by
        refine (ex_is5 dX9_signOf_87 (Nat.le_of_ble_eq_true rfl) rfl (ex_inc6 dX9_signOf_89 (Nat.le_of_ble_eq_true rfl) rfl (inc1 _) (ex_goto (tgt := 16) dX9_signOf_92 rfl ?_)))
        exact ih _ _ ⟨rfl, rfl⟩
      have J1 : EI mX9_signOf sh Mr (fun x M' => x = wI (sgn cl se f) ∧ M' = M'') 54 [some (.ref B), some (.int (nI k)), some (.int (nI f)), some (.int (nI c)), some (.int (bI (anyb p1 s))), some (.int (bI (anyb p2 s))), some (.int (nI s))] [.int (bI (anyb p1 (s + 1)))] M'' := by
        refine (ex_is4 dX9_signOf_54 (Nat.le_of_ble_eq_true rfl) rfl (ex_il5 dX9_signOf_56 (ex_ifB_ne (tgt := 82) dX9_signOf_58 rfl (fun c58 => ?_) (fun c58 => ?_))))
        · refine (ex_iconst (v := nI 1) dX9_signOf_82 rfl (ex_goto (tgt := 87) dX9_signOf_83 rfl ?_))
          exact ex_top (bI_tt (by rw [a2, c58]; rfl)) J2
        · refine (ex_al0 dX9_signOf_61 (ex_getR dX9_signOf_62 flX9_55 (md_sh hB) (md_r27 hB) (ex_il6 dX9_signOf_65 (ex_ildN dX9_signOf_67 (md_a27 hB) (by omega) (by omega) (ex_top (g1) (ex_il3 dX9_signOf_68 (ex_icmp_neN (tgt := 86) dX9_signOf_69 rfl (by omega) (by omega) (fun c69 => ?_) (fun c69 => ?_))))))))
          · refine (ex_iconst (v := nI 0) dX9_signOf_86 rfl ?_)
            exact ex_top (bI_ff (by rw [a2, c58, e2]; simp [c69])) J2
          · refine (ex_al0 dX9_signOf_72 (ex_il1 dX9_signOf_73 (ex_il6 dX9_signOf_74 (ex_VP2 dX9_signOf_76 lkX9_174 (md_sh hB) ⟨_, _, rfl⟩ ⟨(Nat.le_of_ble_eq_true rfl), (Nat.le_of_ble_eq_true rfl)⟩ ⟨Nat.le_refl _, Nat.le_refl _⟩ (Nat.le_of_ble_eq_true rfl) (hse s hs) (ex_ifB_ne (tgt := 86) dX9_signOf_79 rfl (fun c79 => ?_) (fun c79 => ?_))))))
            · refine (ex_iconst (v := nI 0) dX9_signOf_86 rfl ?_)
              exact ex_top (bI_ff (by rw [a2, c58, e2, c79]; simp)) J2
            · refine (ex_iconst (v := nI 1) dX9_signOf_82 rfl (ex_goto (tgt := 87) dX9_signOf_83 rfl ?_))
              exact ex_top (bI_tt (by rw [a2, c58, e2, c79]; simp [c69])) J2
      refine (ex_il6 dX9_signOf_16 (ex_bipush (v := nI 24) dX9_signOf_18 rfl (ex_icmp_geN (tgt := 95) dX9_signOf_20 rfl (by omega) (by omega) (fun c20 => (absurd c20 (by omega))) (fun c20 => (ex_il4 dX9_signOf_23 (ex_ifB_ne (tgt := 49) dX9_signOf_25 rfl (fun c25 => ?_) (fun c25 => ?_)))))))
      · refine (ex_iconst (v := nI 1) dX9_signOf_49 rfl (ex_goto (tgt := 54) dX9_signOf_50 rfl ?_))
        exact ex_top (bI_tt (by rw [a1, c25]; rfl)) J1
      · refine (ex_al0 dX9_signOf_28 (ex_getR dX9_signOf_29 flX9_55 (md_sh hB) (md_r27 hB) (ex_il6 dX9_signOf_32 (ex_ildN dX9_signOf_34 (md_a27 hB) (by omega) (by omega) (ex_top (g1) (ex_il3 dX9_signOf_35 (ex_icmp_neN (tgt := 53) dX9_signOf_36 rfl (by omega) (by omega) (fun c36 => ?_) (fun c36 => ?_))))))))
        · refine (ex_iconst (v := nI 0) dX9_signOf_53 rfl ?_)
          exact ex_top (bI_ff (by rw [a1, c25, e1]; simp [c36])) J1
        · refine (ex_al0 dX9_signOf_39 (ex_il1 dX9_signOf_40 (ex_il6 dX9_signOf_41 (ex_VP2 dX9_signOf_43 lkX9_174 (md_sh hB) ⟨_, _, rfl⟩ ⟨(Nat.le_of_ble_eq_true rfl), (Nat.le_of_ble_eq_true rfl)⟩ ⟨Nat.le_refl _, Nat.le_refl _⟩ (Nat.le_of_ble_eq_true rfl) (hse s hs) (ex_ifB_eq (tgt := 53) dX9_signOf_46 rfl (fun c46 => ?_) (fun c46 => ?_))))))
          · refine (ex_iconst (v := nI 0) dX9_signOf_53 rfl ?_)
            exact ex_top (bI_ff (by rw [a1, c25, e1, c46]; simp)) J1
          · refine (ex_iconst (v := nI 1) dX9_signOf_49 rfl (ex_goto (tgt := 54) dX9_signOf_50 rfl ?_))
            exact ex_top (bI_tt (by rw [a1, c25, e1, c46]; simp [c36])) J1
    · intro ls M'' h
      obtain ⟨rfl, rfl⟩ := h
      have hg : sgp cl se f c = (anyb (fun s => decide (cl s = c) && se s) 24 && (!(anyb (fun s => decide (cl s = c) && !(se s)) 24) && decide (c + f < 4))) := rfl
      have J : sgp cl se f c = false → EI mX9_signOf sh Mr (fun x M' => x = wI (sgn cl se f) ∧ M' = M'') 115 [some (.ref B), some (.int (nI k)), some (.int (nI f)), some (.int (nI c)), some (.int (bI (anyb (fun s => decide (cl s = c) && se s) 24))), some (.int (bI (anyb (fun s => decide (cl s = c) && !(se s)) 24))), some (.int (nI 24))] [] M'' := by
        intro hz
        refine (ex_inc3 dX9_signOf_115 (Nat.le_of_ble_eq_true rfl) rfl (inc1 _) (ex_goto (tgt := 2) dX9_signOf_118 rfl ?_))
        refine ihc _ _ ⟨⟨_, _, _, rfl⟩, fun j hj => ?_, rfl⟩
        by_cases e : j = c
        · subst e; exact hz
        · exact hno j (by omega)
      refine (ex_il6 dX9_signOf_16 (ex_bipush (v := nI 24) dX9_signOf_18 rfl (ex_icmp_geN (tgt := 95) dX9_signOf_20 rfl (by omega) (by omega) (fun c20 => (ex_il4 dX9_signOf_95 (ex_ifB_eq (tgt := 115) dX9_signOf_97 rfl (fun c97 => ?_) (fun c97 => ?_)))) (fun c20 => (absurd (Nat.le_refl 24) c20)))))
      · exact J (by rw [hg, c97]; rfl)
      · refine (ex_il5 dX9_signOf_100 (ex_ifB_ne (tgt := 115) dX9_signOf_102 rfl (fun c102 => ?_) (fun c102 => ?_)))
        · exact J (by rw [hg, c102]; simp)
        · refine (ex_il3 dX9_signOf_105 (ex_il2 dX9_signOf_106 (ex_SP2 dX9_signOf_107 lkX9_177 ⟨(Nat.le_of_ble_eq_true rfl), (Nat.le_of_ble_eq_true rfl)⟩ ⟨Nat.le_refl _, Nat.le_refl _⟩ (Nat.le_of_ble_eq_true rfl) (m_isSeen c f (by omega) hf sh Mr M'') (ex_ifB_eq (tgt := 115) dX9_signOf_110 rfl (fun c110 => ?_) (fun c110 => ?_)))))
          · exact J (by rw [hg, c110]; simp)
          · refine (ex_il3 dX9_signOf_113 (ex_ri dX9_signOf_114 rfl rfl (⟨by rw [show sgn cl se f = some c from fst_eq hc (by rw [hg, c97, c102, c110]; rfl) hno]; rfl, rfl⟩)))
  · intro ls M' h
    obtain ⟨⟨o4, o5, o6, rfl⟩, hno, rfl⟩ := h
    refine (ex_il3 dX9_signOf_2 (ex_iconst (v := nI 4) dX9_signOf_3 rfl (ex_icmp_geN (tgt := 121) dX9_signOf_4 rfl (by omega) (by omega) (fun c4 => (ex_iconst (v := (-1)) dX9_signOf_121 rfl (ex_ri dX9_signOf_122 rfl rfl (⟨by rw [show sgn cl se f = none from fst_no hno]; rfl, rfl⟩)))) (fun c4 => (absurd (Nat.le_refl 4) c4)))))
theorem sgn_lt {cl : Nat → Nat} {se : Nat → Bool} {f c : Nat} (h : sgn cl se f = some c) : c < 4 := (fst_some h).1
theorem m_sureIn {sh : Sh} {Mr : MR} {B : Nat} (hB : MD sh Mr B) (M : MM) (d : Sd) (hd : ShM B M d) (cl : Nat → Nat) (hcl : ∀ s, s < 24 → M (B + 16) s = nI (cl s) ∧ cl s ≤ 4) (f : Nat) (hf : f < 4) : CtP mX9_sureIn [.ref B, .int (nI f)] sh Mr M (bset (sur cl d f) d.1) := by
  have h5 := hd.2.1
  refine ct_of (mi := mX9_sureIn) (ls := [some (.ref B), some (.int (nI f)), none, none]) rfl rfl (Nat.le_of_ble_eq_true rfl) rfl ?_
  refine (ex_iconst (v := nI 0) dX9_sureIn_0 rfl (ex_is2 dX9_sureIn_1 (Nat.le_of_ble_eq_true rfl) rfl (ex_iconst (v := nI 0) dX9_sureIn_2 rfl (ex_is3 dX9_sureIn_3 (Nat.le_of_ble_eq_true rfl) rfl ?_))))
  refine ex_for (I := fun k ls M' => ls = [some (.ref B), some (.int (nI f)), some (.int (bset (sur cl d f) k)), some (.int (nI k))] ∧ M' = M) d.1 ?_ ?_ 0 _ _ (Nat.zero_le _) ⟨rfl, rfl⟩
  · intro k ls M' hk h ih
    obtain ⟨rfl, rfl⟩ := h
    have hneg := wI_neg (o := sgn cl (seb (d.2.1 k) (d.2.2 k)) f) (fun i h => by have := sgn_lt h; omega)
    refine (ex_il3 dX9_sureIn_4 (ex_al0 dX9_sureIn_5 (ex_getI dX9_sureIn_6 flX9_92 (md_sh hB) (ex_top (hd.1) (ex_icmp_geN (tgt := 37) dX9_sureIn_9 rfl (by omega) (by omega) (fun c9 => (absurd c9 (by omega))) (fun c9 => (ex_il2 dX9_sureIn_12 (ex_al0 dX9_sureIn_13 (ex_il3 dX9_sureIn_14 (ex_il1 dX9_sureIn_15 (ex_VP2 dX9_sureIn_16 lkX9_180 (md_sh hB) ⟨_, _, rfl⟩ ⟨(Nat.le_of_ble_eq_true rfl), (Nat.le_of_ble_eq_true rfl)⟩ ⟨Nat.le_refl _, Nat.le_refl _⟩ (Nat.le_of_ble_eq_true rfl) (m_signOf hB M' d hd cl hcl k f hk hf) (ex_if_lt (tgt := 28) dX9_sureIn_19 rfl (fun c19 => ?_) (fun c19 => ?_)))))))))))))
    · refine (ex_iconst (v := nI 0) dX9_sureIn_28 rfl (ex_ior dX9_sureIn_29 (ex_top (bset_f (by unfold sur; rw [hneg.mp c19]; rfl)) (ex_is2 dX9_sureIn_30 (Nat.le_of_ble_eq_true rfl) rfl (ex_inc3 dX9_sureIn_31 (Nat.le_of_ble_eq_true rfl) rfl (inc1 _) (ex_goto (tgt := 4) dX9_sureIn_34 rfl ?_))))))
      exact ih _ _ ⟨rfl, rfl⟩
    · refine (ex_iconst (v := nI 1) dX9_sureIn_22 rfl (ex_il3 dX9_sureIn_23 (ex_ishl dX9_sureIn_24 (ex_goto (tgt := 29) dX9_sureIn_25 rfl (ex_ior dX9_sureIn_29 (ex_top (bset_t (by unfold sur; cases hz : sgn cl (seb (d.2.1 k) (d.2.2 k)) f; exact absurd (hneg.mpr hz) c19; rfl)) (ex_is2 dX9_sureIn_30 (Nat.le_of_ble_eq_true rfl) rfl (ex_inc3 dX9_sureIn_31 (Nat.le_of_ble_eq_true rfl) rfl (inc1 _) (ex_goto (tgt := 4) dX9_sureIn_34 rfl ?_)))))))))
      exact ih _ _ ⟨rfl, rfl⟩
  · intro ls M' h
    obtain ⟨rfl, rfl⟩ := h
    refine (ex_il3 dX9_sureIn_4 (ex_al0 dX9_sureIn_5 (ex_getI dX9_sureIn_6 flX9_92 (md_sh hB) (ex_top (hd.1) (ex_icmp_geN (tgt := 37) dX9_sureIn_9 rfl (by omega) (by omega) (fun c9 => (ex_il2 dX9_sureIn_37 (ex_ri dX9_sureIn_38 rfl rfl (⟨rfl, rfl⟩)))) (fun c9 => (absurd (Nat.le_refl d.1) c9)))))))
theorem bset_and {p q : Nat → Bool} {n : Nat} (hn : n ≤ 32) : bset p n &&& bset q n = bset (fun i => p i && q i) n := by
  apply b_ext
  intro i hi
  rw [b_and, bt_bset p n hn i hi, bt_bset q n hn i hi, bt_bset _ n hn i hi]
  cases decide (i < n) <;> simp
theorem sgp_mono {cl : Nat → Nat} {se : Nat → Bool} {f g c : Nat} (h : g ≤ f) (hs : sgp cl se f c = true) : sgp cl se g c = true := by
  unfold sgp at hs ⊢
  simp only [Bool.and_eq_true, decide_eq_true_eq] at hs ⊢
  exact ⟨hs.1, hs.2.1, by omega⟩
theorem sur_mono {cl : Nat → Nat} {d : Sd} {f g k : Nat} (h : g ≤ f) (hs : sur cl d f k = true) : sur cl d g k = true := by
  unfold sur at hs ⊢
  cases hz : sgn cl (seb (d.2.1 k) (d.2.2 k)) f with
  | none => rw [hz] at hs; cases hs
  | some c =>
    obtain ⟨a, b, -⟩ := fst_some hz
    cases hy : sgn cl (seb (d.2.1 k) (d.2.2 k)) g with
    | some _ => rfl
    | none =>
      have := fst_none hy c a
      rw [sgp_mono h b] at this
      cases this
theorem m_sureInAny {sh : Sh} {Mr : MR} {B : Nat} (hB : MD sh Mr B) (M : MM) (d : Sd) (hd : ShM B M d) (cl : Nat → Nat) (hcl : ∀ s, s < 24 → M (B + 16) s = nI (cl s) ∧ cl s ≤ 4) : CtP mX9_sureInAny [.ref B] sh Mr M (bset (sur cl d 3) d.1) := by
  have h5 := hd.2.1
  refine ct_of (mi := mX9_sureInAny) (ls := [some (.ref B)]) rfl rfl (Nat.le_of_ble_eq_true rfl) rfl ?_
  refine (ex_al0 dX9_sureInAny_0 (ex_iconst (v := nI 0) dX9_sureInAny_1 rfl (ex_VP1 dX9_sureInAny_2 lkX9_184 (md_sh hB) ⟨_, _, rfl⟩ ⟨(Nat.le_of_ble_eq_true rfl), (Nat.le_of_ble_eq_true rfl)⟩ ⟨Nat.le_refl _, Nat.le_refl _⟩ (Nat.le_of_ble_eq_true rfl) (m_sureIn hB M d hd cl hcl 0 (by omega)) (ex_al0 dX9_sureInAny_5 (ex_iconst (v := nI 1) dX9_sureInAny_6 rfl (ex_VP1 dX9_sureInAny_7 lkX9_184 (md_sh hB) ⟨_, _, rfl⟩ ⟨(Nat.le_of_ble_eq_true rfl), (Nat.le_of_ble_eq_true rfl)⟩ ⟨Nat.le_refl _, Nat.le_refl _⟩ (Nat.le_of_ble_eq_true rfl) (m_sureIn hB M d hd cl hcl 1 (by omega)) (ex_iand dX9_sureInAny_10 (ex_al0 dX9_sureInAny_11 (ex_iconst (v := nI 2) dX9_sureInAny_12 rfl (ex_VP1 dX9_sureInAny_13 lkX9_184 (md_sh hB) ⟨_, _, rfl⟩ ⟨(Nat.le_of_ble_eq_true rfl), (Nat.le_of_ble_eq_true rfl)⟩ ⟨Nat.le_refl _, Nat.le_refl _⟩ (Nat.le_of_ble_eq_true rfl) (m_sureIn hB M d hd cl hcl 2 (by omega)) (ex_iand dX9_sureInAny_16 (ex_al0 dX9_sureInAny_17 (ex_iconst (v := nI 3) dX9_sureInAny_18 rfl (ex_VP1 dX9_sureInAny_19 lkX9_184 (md_sh hB) ⟨_, _, rfl⟩ ⟨(Nat.le_of_ble_eq_true rfl), (Nat.le_of_ble_eq_true rfl)⟩ ⟨Nat.le_refl _, Nat.le_refl _⟩ (Nat.le_of_ble_eq_true rfl) (m_sureIn hB M d hd cl hcl 3 (by omega)) (ex_iand dX9_sureInAny_22 (ex_ri dX9_sureInAny_23 rfl rfl ?_))))))))))))))))
  refine ⟨?_, rfl⟩
  rw [bset_and (by omega), bset_and (by omega), bset_and (by omega)]
  refine bset_congr _ (fun k hk => ?_)
  cases hz : sur cl d 3 k
  · simp
  · rw [sur_mono (show 0 ≤ 3 by omega) hz, sur_mono (show 1 ≤ 3 by omega) hz, sur_mono (show 2 ≤ 3 by omega) hz]; rfl
