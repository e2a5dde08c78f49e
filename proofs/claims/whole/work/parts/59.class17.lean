/-! the class: the next way -/
def WyX (M : MM) (n : Nat) (W : Nat → Nat) : Prop := ∀ i, i < n → M 92 i = nI (W i) ∧ W i < n
theorem WyX.sw {M : MM} {n : Nat} {W : Nat → Nat} (h : WyX M n W) {a b : Nat} (ha : a < n) (hb : b < n) : WyX (swR M 92 a b) n (swp W a b) := by
  intro i hi
  simp only [swR, swp, if_true]
  by_cases h1 : i = b
  · simp only [if_pos h1]; exact h a ha
  · by_cases h2 : i = a
    · simp only [if_neg h1, if_pos h2]; exact h b hb
    · simp only [if_neg h1, if_neg h2]; exact h i hi
theorem rsW_le (W : Nat → Nat) : ∀ r, rsW W r ≤ r
  | 0 => Nat.le_refl _
  | r + 1 => by
    unfold rsW
    split
    · have := rsW_le W r; omega
    · omega
theorem abW_le (W : Nat → Nat) (p : Nat) : ∀ a, abW W p a ≤ a
  | 0 => Nat.le_refl _
  | a + 1 => by
    unfold abW
    split
    · have := abW_le W p a; omega
    · omega
theorem n12 (n : Nat) : nI n - nI 2 = nI n - nI 1 - nI 1 := by
  rw [Int32.sub_sub]
  rfl
theorem x_nextWay {sh : Sh} {Mr : MR} {L D : Nat} (hG : GX sh Mr L D) (M : MM) (n : Nat) (h1 : 1 ≤ n) (h6 : n ≤ 6) (W : Nat → Nat) (hW : WyX M n W) : CtI mX6_nextWay [.ref 84, .int (nI n)] sh Mr M (fun v M' => v = bI (nxW n W).isSome ∧ (∀ c, c ≠ 92 → M' c = M c) ∧ ∀ V, nxW n W = some V → WyX M' n V) := by
  generalize hO : nxW n W = O
  have hRle := rsW_le W (n - 1)
  -- the turn of the rest
  have JR : ∀ (k lo hi : Nat) (V : Nat → Nat) (M1 : MM) (l2 l3 : Int32), hi < lo + k ∨ hi ≤ lo → lo ≤ n → hi < n → (∀ c, c ≠ 92 → M1 c = M c) → WyX M1 n V → O = some (rvW k V lo hi) → EI mX6_nextWay sh Mr (fun v M' => v = bI O.isSome ∧ (∀ c, c ≠ 92 → M' c = M c) ∧ ∀ V, O = some V → WyX M' n V) 86 [some (.ref 84), some (.int (nI n)), some (.int l2), some (.int l3), some (.int (nI lo)), some (.int (nI hi))] [] M1 := by
    intro k
    induction k with
    | zero =>
      intro lo hi V M1 l2 l3 a1 a2 a3 a4 a5 a6
      refine (ex_il4 dX6_nextWay_86 (ex_il5 dX6_nextWay_88 (ex_icmp_geN (tgt := 113) dX6_nextWay_90 rfl (by omega) (by omega) (fun c90 => (ex_iconst (v := nI 1) dX6_nextWay_113 rfl (ex_ri dX6_nextWay_114 rfl rfl (⟨by rw [a6]; rfl, a4, fun V2 h => by rw [a6] at h; cases h; exact a5⟩)))) (fun c90 => (absurd (by omega) c90)))))
    | succ k ih =>
      intro lo hi V M1 l2 l3 a1 a2 a3 a4 a5 a6
      unfold rvW at a6
      by_cases hlt : lo < hi
      · rw [if_pos hlt] at a6
        refine (ex_il4 dX6_nextWay_86 (ex_il5 dX6_nextWay_88 (ex_icmp_geN (tgt := 113) dX6_nextWay_90 rfl (by omega) (by omega) (fun c90 => (absurd c90 (by omega))) (fun c90 => (ex_al0 dX6_nextWay_93 (ex_getR dX6_nextWay_94 flX6_16 (gx84 hG) (gr84_1 hG) (ex_il4 dX6_nextWay_97 (ex_il5 dX6_nextWay_99 (ex_SV3 dX6_nextWay_101 lkX6_89 ⟨(Nat.le_of_ble_eq_true rfl), (Nat.le_of_ble_eq_true rfl)⟩ ⟨Nat.le_refl _, Nat.le_refl _⟩ (Nat.le_of_ble_eq_true rfl) (x_swap 92 6 lo hi (gx92 hG) (by omega) (by omega) (by omega) _) (fun M101 h101 => ?_))))))))))
        subst h101
        refine (ex_inc4 dX6_nextWay_104 (Nat.le_of_ble_eq_true rfl) rfl (inc1 _) (ex_inc5 dX6_nextWay_107 (Nat.le_of_ble_eq_true rfl) rfl ((dec1s hi).trans (pk_sub (by omega))) (ex_goto (tgt := 86) dX6_nextWay_110 rfl ?_)))
        exact ih (lo + 1) (hi - 1) _ _ l2 l3 (by omega) (by omega) (by omega) (fun c hc => by rw [swR_oc hc]; exact a4 c hc) (a5.sw (by omega) (by omega)) a6
      · rw [if_neg hlt] at a6
        refine (ex_il4 dX6_nextWay_86 (ex_il5 dX6_nextWay_88 (ex_icmp_geN (tgt := 113) dX6_nextWay_90 rfl (by omega) (by omega) (fun c90 => (ex_iconst (v := nI 1) dX6_nextWay_113 rfl (ex_ri dX6_nextWay_114 rfl rfl (⟨by rw [a6]; rfl, a4, fun V2 h => by rw [a6] at h; cases h; exact a5⟩)))) (fun c90 => (absurd (by omega) c90)))))
  -- the change, once both are found
  have J67 : ∀ (R a : Nat), rsW W (n - 1) = R + 1 → abW W R (n - 1) = a → EI mX6_nextWay sh Mr (fun v M' => v = bI O.isSome ∧ (∀ c, c ≠ 92 → M' c = M c) ∧ ∀ V, O = some V → WyX M' n V) 67 [some (.ref 84), some (.int (nI n)), some (.int (nI R)), some (.int (nI a)), none, none] [] M := by
    intro R a hR ha
    have hal := abW_le W R (n - 1)
    refine (ex_al0 dX6_nextWay_67 (ex_getR dX6_nextWay_68 flX6_16 (gx84 hG) (gr84_1 hG) (ex_il2 dX6_nextWay_71 (ex_il3 dX6_nextWay_72 (ex_SV3 dX6_nextWay_73 lkX6_89 ⟨(Nat.le_of_ble_eq_true rfl), (Nat.le_of_ble_eq_true rfl)⟩ ⟨Nat.le_refl _, Nat.le_refl _⟩ (Nat.le_of_ble_eq_true rfl) (x_swap 92 6 R a (gx92 hG) (by omega) (by omega) (by omega) _) (fun M73 h73 => ?_))))))
    subst h73
    refine (ex_il2 dX6_nextWay_76 (ex_iconst (v := nI 1) dX6_nextWay_77 rfl (ex_iaddN dX6_nextWay_78 (ex_is4 dX6_nextWay_79 (Nat.le_of_ble_eq_true rfl) rfl (ex_il1 dX6_nextWay_81 (ex_iconst (v := nI 1) dX6_nextWay_82 rfl (ex_isubN dX6_nextWay_83 (by omega) (ex_is5 dX6_nextWay_84 (Nat.le_of_ble_eq_true rfl) rfl ?_))))))))
    refine JR n (R + 1) (n - 1) _ _ _ _ (by omega) (by omega) (by omega) (fun c hc => swR_oc hc) (hW.sw (by omega) (by omega)) ?_
    rw [← hO]
    unfold nxW
    rw [hR, if_neg (by omega), Nat.add_sub_cancel, ha]
  -- the search of the greater one
  have J41 : ∀ (R : Nat), rsW W (n - 1) = R + 1 → ∀ (a : Nat), a < n → R ≤ a → abW W R (n - 1) = abW W R a → EI mX6_nextWay sh Mr (fun v M' => v = bI O.isSome ∧ (∀ c, c ≠ 92 → M' c = M c) ∧ ∀ V, O = some V → WyX M' n V) 41 [some (.ref 84), some (.int (nI n)), some (.int (nI R)), some (.int (nI a)), none, none] [] M := by
    intro R hR a
    induction a with
    | zero =>
      intro e1 e2 e3
      refine (ex_il3 dX6_nextWay_41 (ex_il2 dX6_nextWay_42 (ex_icmp_leN (tgt := 67) dX6_nextWay_43 rfl (by omega) (by omega) (fun c43 => ?_) (fun c43 => (absurd (by omega) c43)))))
      exact J67 R 0 hR e3
    | succ a ih =>
      intro e1 e2 e3
      have w1 := hW (a + 1) e1
      have w2 := hW R (by omega)
      have e4 : abW W R (a + 1) = if R < a + 1 ∧ W (a + 1) < W R then abW W R a else a + 1 := rfl
      refine (ex_il3 dX6_nextWay_41 (ex_il2 dX6_nextWay_42 (ex_icmp_leN (tgt := 67) dX6_nextWay_43 rfl (by omega) (by omega) (fun c43 => ?_) (fun c43 => ?_))))
      · rw [e4, if_neg (by omega)] at e3
        exact J67 R (a + 1) hR e3
      · refine (ex_al0 dX6_nextWay_46 (ex_getR dX6_nextWay_47 flX6_16 (gx84 hG) (gr84_1 hG) (ex_il3 dX6_nextWay_50 (ex_ildN dX6_nextWay_51 (gx92 hG) (by omega) (by omega) (ex_top (w1.1) (ex_al0 dX6_nextWay_52 (ex_getR dX6_nextWay_53 flX6_16 (gx84 hG) (gr84_1 hG) (ex_il2 dX6_nextWay_56 (ex_ildN dX6_nextWay_57 (gx92 hG) (by omega) (by omega) (ex_top (w2.1) (ex_icmp_geN (tgt := 67) dX6_nextWay_58 rfl (by omega) (by omega) (fun c58 => ?_) (fun c58 => ?_))))))))))))
        · rw [e4, if_neg (by omega)] at e3
          exact J67 R (a + 1) hR e3
        · rw [e4, if_pos (by omega)] at e3
          refine (ex_inc3 dX6_nextWay_61 (Nat.le_of_ble_eq_true rfl) rfl ((dec1s (a + 1)).trans (pk_sub (by omega))) (ex_goto (tgt := 41) dX6_nextWay_64 rfl ?_))
          exact ih (by omega) (by omega) e3
  have J31 : ∀ (R : Nat) (x : Int32), x = nI R - nI 1 → rsW W (n - 1) = R → EI mX6_nextWay sh Mr (fun v M' => v = bI O.isSome ∧ (∀ c, c ≠ 92 → M' c = M c) ∧ ∀ V, O = some V → WyX M' n V) 31 [some (.ref 84), some (.int (nI n)), some (.int x), none, none, none] [] M := by
    intro R x hx hR
    cases R with
    | zero =>
      subst hx
      have e : O = none := by rw [← hO]; unfold nxW; rw [if_pos hR]
      refine (ex_il2 dX6_nextWay_31 (ex_if_ge (tgt := 37) dX6_nextWay_32 rfl (fun c32 => (absurd c32 (by decide))) (fun c32 => (ex_iconst (v := nI 0) dX6_nextWay_35 rfl (ex_ri dX6_nextWay_36 rfl rfl (⟨by rw [e]; rfl, fun _ _ => rfl, fun V h => by rw [e] at h; cases h⟩))))))
    | succ r =>
      rw [pk_sub (show 1 ≤ r + 1 by omega), Nat.add_sub_cancel] at hx
      subst hx
      refine (ex_il2 dX6_nextWay_31 (ex_if_ge (tgt := 37) dX6_nextWay_32 rfl (fun c32 => (ex_il1 dX6_nextWay_37 (ex_iconst (v := nI 1) dX6_nextWay_38 rfl (ex_isubN dX6_nextWay_39 (by omega) (ex_is3 dX6_nextWay_40 (Nat.le_of_ble_eq_true rfl) rfl ?_))))) (fun c32 => (absurd (i_nlt (nI_pos (by omega))) c32))))
      exact J41 r hR (n - 1) (by omega) (by omega) rfl
  have J4 : ∀ r, r ≤ n - 1 → rsW W (n - 1) = rsW W r → EI mX6_nextWay sh Mr (fun v M' => v = bI O.isSome ∧ (∀ c, c ≠ 92 → M' c = M c) ∧ ∀ V, O = some V → WyX M' n V) 4 [some (.ref 84), some (.int (nI n)), some (.int (nI r - nI 1)), none, none, none] [] M := by
    intro r
    induction r with
    | zero =>
      intro e1 e2
      refine (ex_il2 dX6_nextWay_4 (ex_if_lt (tgt := 31) dX6_nextWay_5 rfl (fun c5 => ?_) (fun c5 => (absurd (by decide) c5))))
      exact J31 0 _ rfl e2
    | succ r ih =>
      intro e1 e2
      have w1 := hW r (by omega)
      have w2 := hW (r + 1) (by omega)
      have e4 : rsW W (r + 1) = if W (r + 1) < W r then rsW W r else r + 1 := rfl
      rw [pk_sub (show 1 ≤ r + 1 by omega), Nat.add_sub_cancel]
      refine (ex_il2 dX6_nextWay_4 (ex_if_lt (tgt := 31) dX6_nextWay_5 rfl (fun c5 => (absurd c5 (nI_pos (by omega)))) (fun c5 => (ex_al0 dX6_nextWay_8 (ex_getR dX6_nextWay_9 flX6_16 (gx84 hG) (gr84_1 hG) (ex_il2 dX6_nextWay_12 (ex_ildN dX6_nextWay_13 (gx92 hG) (by omega) (by omega) (ex_top (w1.1) (ex_al0 dX6_nextWay_14 (ex_getR dX6_nextWay_15 flX6_16 (gx84 hG) (gr84_1 hG) (ex_il2 dX6_nextWay_18 (ex_iconst (v := nI 1) dX6_nextWay_19 rfl (ex_iaddN dX6_nextWay_20 (ex_ildN dX6_nextWay_21 (gx92 hG) (by omega) (by omega) (ex_top (w2.1) (ex_icmp_leN (tgt := 31) dX6_nextWay_22 rfl (by omega) (by omega) (fun c22 => ?_) (fun c22 => ?_)))))))))))))))))
      · rw [e4, if_neg (by omega)] at e2
        exact J31 (r + 1) _ (by rw [pk_sub (show 1 ≤ r + 1 by omega), Nat.add_sub_cancel]) e2
      · rw [e4, if_pos (by omega)] at e2
        refine (ex_inc2 dX6_nextWay_25 (Nat.le_of_ble_eq_true rfl) rfl (dec1s r) (ex_goto (tgt := 4) dX6_nextWay_28 rfl ?_))
        exact ih (by omega) e2
  refine ct_of (mi := mX6_nextWay) (ls := [some (.ref 84), some (.int (nI n)), none, none, none, none]) rfl rfl (Nat.le_of_ble_eq_true rfl) rfl ?_
  refine (ex_il1 dX6_nextWay_0 (ex_iconst (v := nI 2) dX6_nextWay_1 rfl (ex_isub dX6_nextWay_2 (ex_top (y := (nI (n - 1) - nI 1)) (by rw [← pk_sub h1]; exact n12 n) (ex_is2 dX6_nextWay_3 (Nat.le_of_ble_eq_true rfl) rfl ?_)))))
  exact J4 (n - 1) (Nat.le_refl _) rfl
