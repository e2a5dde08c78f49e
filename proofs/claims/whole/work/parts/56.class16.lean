/-! the class: the search -/
theorem grd {sh : Sh} {Mr : MR} {L D : Nat} (h : GX sh Mr L D) (i : Nat) (hi : i < 6) : Mr 85 i = some (86 + i) ∧ sh[86 + i]? = some (0, 6) := by
  rcases (show i = 0 ∨ i = 1 ∨ i = 2 ∨ i = 3 ∨ i = 4 ∨ i = 5 by omega) with rfl | rfl | rfl | rfl | rfl | rfl
  · exact ⟨gr85_0 h, gx86 h⟩
  · exact ⟨gr85_1 h, gx87 h⟩
  · exact ⟨gr85_2 h, gx88 h⟩
  · exact ⟨gr85_3 h, gx89 h⟩
  · exact ⟨gr85_4 h, gx90 h⟩
  · exact ⟨gr85_5 h, gx91 h⟩
/-- the grid: where i would shine on the place of j -/
def GdX (M : MM) (n : Nat) (o : To) (x : St) (i j : Nat) : Prop := ∀ s, s < 32 → bt (M (86 + i) j) s = (decide (s < 24) && (decide (bh (x.2.2.2.1 j) s < x.2.2.2.2 j) && kOK o.1 x.1 i (bh (x.2.2.2.1 j) s)))
theorem x_prepare {sh : Sh} {Mr : MR} {L D : Nat} (hG : GX sh Mr L D) (M : MM) (o : To) (ho : LdX M L o) (x : St) (hx : stX M 25 o.1.1 x) (hv : plV o.1.1 x) : CtV mX6_prepare [.ref 84, .ref L, .ref 25] sh Mr M (fun M' => (∀ c, c < 84 ∨ 93 ≤ c → M' c = M c) ∧ M' 84 3 = -1 ∧ (∀ i, i < o.1.1 → M' 92 i = nI i) ∧ ∀ i, i < o.1.1 → ∀ j, j < o.1.1 → GdX M' o.1.1 o x i j) := by
  have h6 := ho.1.2.1
  have hL := GL hG
  refine ct_of (mi := mX6_prepare) (ls := [some (.ref 84), some (.ref L), some (.ref 25), none, none]) rfl rfl (Nat.le_of_ble_eq_true rfl) rfl ?_
  refine (ex_al0 dX6_prepare_0 (ex_iconst (v := (-1)) dX6_prepare_1 rfl (ex_putI dX6_prepare_2 (fpX6_60 _) (gx84 hG) (ex_iconst (v := nI 0) dX6_prepare_5 rfl (ex_is3 dX6_prepare_6 (Nat.le_of_ble_eq_true rfl) rfl ?_)))))
  refine ex_for (I := fun i ls M' => (∃ o4, ls = [some (.ref 84), some (.ref L), some (.ref 25), some (.int (nI i)), o4]) ∧ (∀ c, c < 84 ∨ 93 ≤ c → M' c = M c) ∧ M' 84 3 = -1 ∧ (∀ k, k < i → M' 92 k = nI k) ∧ ∀ k, k < i → ∀ j, j < o.1.1 → GdX M' o.1.1 o x k j) o.1.1 ?_ ?_ 0 _ _ (Nat.zero_le _) ⟨⟨none, rfl⟩, fun c hc => wr_oc (by omega), wr_s, fun k hk => by omega, fun k hk => by omega⟩
  · intro i ls M1 hi h ih
    obtain ⟨⟨o4, rfl⟩, f1, f2, f3, f4⟩ := h
    have ho1 : LdX M1 L o := ho.of (fun c e1 e2 => f1 c (by omega))
    obtain ⟨d1, d2⟩ := grd hG i (by omega)
    refine (ex_il3 dX6_prepare_7 (ex_al1 dX6_prepare_8 (ex_getI dX6_prepare_9 flX6_33 (la_sh (laL hG)) (ex_top (ho1.1.1) (ex_icmp_geN (tgt := 78) dX6_prepare_12 rfl (by omega) (by omega) (fun c12 => (absurd c12 (by omega))) (fun c12 => (ex_al0 dX6_prepare_15 (ex_getR dX6_prepare_16 flX6_16 (gx84 hG) (gr84_1 hG) (ex_il3 dX6_prepare_19 (ex_il3 dX6_prepare_20 (ex_istN dX6_prepare_21 (gx92 hG) (by omega) (by omega) (ex_iconst (v := nI 0) dX6_prepare_22 rfl (ex_is4 dX6_prepare_23 (Nat.le_of_ble_eq_true rfl) rfl ?_)))))))))))))
    refine ex_for (I := fun j ls M' => ls = [some (.ref 84), some (.ref L), some (.ref 25), some (.int (nI i)), some (.int (nI j))] ∧ (∀ c, c < 84 ∨ 93 ≤ c → M' c = M c) ∧ M' 84 3 = -1 ∧ (∀ k, k < i + 1 → M' 92 k = nI k) ∧ (∀ k, k < i → ∀ j, j < o.1.1 → GdX M' o.1.1 o x k j) ∧ ∀ k, k < j → GdX M' o.1.1 o x i k) o.1.1 ?_ ?_ 0 _ _ (Nat.zero_le _) ⟨rfl, fun c hc => by rw [wr_oc (by omega)]; exact f1 c hc, by rw [wr_oc (by omega)]; exact f2, fun k hk => ?_, fun k hk j hj s hs => by rw [wr_oc (by omega)]; exact f4 k hk j hj s hs, fun k hk => by omega⟩
    · intro j ls M2 hj h ihj
      obtain ⟨rfl, g1, g2, g3, g4, g5⟩ := h
      have ho2 : LdX M2 L o := ho.of (fun c e1 e2 => g1 c (by omega))
      have hx2 : stX M2 25 o.1.1 x := hx.of (fun c e1 e2 => g1 c (by omega))
      obtain ⟨k1, k2⟩ := hv.2 j hj
      obtain ⟨-, b2, b3⟩ := hx2.2.2 j hj
      refine (ex_il4 dX6_prepare_25 (ex_al1 dX6_prepare_27 (ex_getI dX6_prepare_28 flX6_33 (la_sh (laL hG)) (ex_top (ho2.1.1) (ex_icmp_geN (tgt := 72) dX6_prepare_31 rfl (by omega) (by omega) (fun c31 => (absurd c31 (by omega))) (fun c31 => (ex_al0 dX6_prepare_34 (ex_getR dX6_prepare_35 flX6_11 (gx84 hG) (gr84_0 hG) (ex_il3 dX6_prepare_38 (ex_aald2N dX6_prepare_39 (gx85 hG) (by omega) (by omega) (d1) (ex_il4 dX6_prepare_40 (ex_al1 dX6_prepare_42 (ex_il3 dX6_prepare_43 (ex_al2 dX6_prepare_44 (ex_getR dX6_prepare_45 flX6_76 (sa_sh (sa25 hG)) (sa_r2 (sa25 hG)) (ex_il4 dX6_prepare_48 (ex_ildN dX6_prepare_50 (sa_a2 (sa25 hG)) (by omega) (by omega) (ex_top (b2) (ex_al2 dX6_prepare_51 (ex_getR dX6_prepare_52 flX6_79 (sa_sh (sa25 hG)) (sa_r3 (sa25 hG)) (ex_il4 dX6_prepare_55 (ex_ildN dX6_prepare_57 (sa_a3 (sa25 hG)) (by omega) (by omega) (ex_top (b3) (ex_al2 dX6_prepare_58 (ex_getI dX6_prepare_59 flX6_82 (sa_sh (sa25 hG)) (ex_top (hx2.1) (ex_VI4 dX6_prepare_62 lkX6_85 (la_sh (laL hG)) ⟨_, _, rfl⟩ ⟨(Nat.le_of_ble_eq_true rfl), (Nat.le_of_ble_eq_true rfl)⟩ ⟨Nat.le_refl _, Nat.le_refl _⟩ (Nat.le_of_ble_eq_true rfl) (x_shineOf (laL hG) M2 o ho2 i _ _ _ hi k1 k2 hv.1) (fun v62 M62 h62 => ?_))))))))))))))))))))))))))))
      obtain ⟨rfl, q⟩ := h62
      refine (ex_istN dX6_prepare_65 (d2) (by omega) (by omega) (ex_inc4 dX6_prepare_66 (Nat.le_of_ble_eq_true rfl) rfl (inc1 _) (ex_goto (tgt := 25) dX6_prepare_69 rfl ?_)))
      refine ihj _ _ ⟨rfl, fun c hc => by rw [wr_oc (by omega)]; exact g1 c hc, by rw [wr_oc (by omega)]; exact g2, fun k hk => by rw [wr_oc (by omega)]; exact g3 k hk, fun k hk j2 hj2 s hs => by rw [wr_oc (by omega)]; exact g4 k hk j2 hj2 s hs, fun k hk s hs => ?_⟩
      by_cases e : k = j
      · subst e; rw [wr_s]; exact q s hs
      · rw [wr_oi e]; exact g5 k (by omega) s hs
    · intro ls M2 h
      obtain ⟨rfl, g1, g2, g3, g4, g5⟩ := h
      have ho2 : LdX M2 L o := ho.of (fun c e1 e2 => g1 c (by omega))
      refine (ex_il4 dX6_prepare_25 (ex_al1 dX6_prepare_27 (ex_getI dX6_prepare_28 flX6_33 (la_sh (laL hG)) (ex_top (ho2.1.1) (ex_icmp_geN (tgt := 72) dX6_prepare_31 rfl (by omega) (by omega) (fun c31 => (ex_inc3 dX6_prepare_72 (Nat.le_of_ble_eq_true rfl) rfl (inc1 _) (ex_goto (tgt := 7) dX6_prepare_75 rfl ?_))) (fun c31 => (absurd (Nat.le_refl _) c31)))))))
      refine ih _ _ ⟨⟨_, rfl⟩, g1, g2, g3, fun k hk j hj => ?_⟩
      by_cases e : k = i
      · subst e; exact g5 j hj
      · exact g4 k (by omega) j hj
    · by_cases e : k = i
      · subst e; rw [wr_s]
      · rw [wr_oi e]; exact f3 k (by omega)
  · intro ls M1 h
    obtain ⟨⟨o4, rfl⟩, f1, f2, f3, f4⟩ := h
    have ho1 : LdX M1 L o := ho.of (fun c e1 e2 => f1 c (by omega))
    refine (ex_il3 dX6_prepare_7 (ex_al1 dX6_prepare_8 (ex_getI dX6_prepare_9 flX6_33 (la_sh (laL hG)) (ex_top (ho1.1.1) (ex_icmp_geN (tgt := 78) dX6_prepare_12 rfl (by omega) (by omega) (fun c12 => (ex_rv dX6_prepare_78 rfl (⟨f1, f2, f3, f4⟩))) (fun c12 => (absurd (Nat.le_refl _) c12)))))))
