/-! the reference: the paint -/
theorem dec1s (i : Nat) : nI i + Int32.ofInt (-1) = nI i - nI 1 := by
  rw [Int32.sub_eq_add_neg]; rfl
theorem wr_wr {M : MM} {c i : Nat} {x y : Int32} : wr (wr M c i x) c i y = wr M c i y := by
  funext c2 j
  unfold wr
  by_cases h : c2 = c
  · subst h
    by_cases h2 : j = i <;> simp [h2]
  · simp [h]
def pnt (M : MM) (B : Nat) (w : Nat → Option Nat) (cl : Nat → Nat) (n : Nat) : MM := fun c j => if c = B + 15 ∧ j < n then wI (w j) else if c = B + 16 ∧ j < n then nI (cl j) else M c j
theorem pnt_0 {M : MM} {B : Nat} {w : Nat → Option Nat} {cl : Nat → Nat} : pnt M B w cl 0 = M := by
  funext c j
  simp [pnt]
theorem pnt_s {M : MM} {B s : Nat} {w : Nat → Option Nat} {cl : Nat → Nat} : wr (wr (pnt M B w cl s) (B + 15) s (wI (w s))) (B + 16) s (nI (cl s)) = pnt M B w cl (s + 1) := by
  funext c j
  unfold wr pnt
  by_cases h1 : c = B + 16
  · subst h1
    by_cases h2 : j = s
    · subst h2; simp
    · have e : (j < s + 1) ↔ (j < s) := by omega
      simp [h2, e]
  · by_cases h3 : c = B + 15
    · subst h3
      by_cases h2 : j = s
      · subst h2; simp
      · have e : (j < s + 1) ↔ (j < s) := by omega
        simp [h2, e]
    · simp [h1, h3]
theorem pnt_oc {M : MM} {B s c : Nat} {w : Nat → Option Nat} {cl : Nat → Nat} (h1 : c ≠ B + 15) (h2 : c ≠ B + 16) : pnt M B w cl s c = M c := by
  funext j
  simp [pnt, h1, h2]
theorem pnt_w {M : MM} {B n s : Nat} {w : Nat → Option Nat} {cl : Nat → Nat} (h : s < n) : pnt M B w cl n (B + 15) s = wI (w s) := by simp [pnt, h]
theorem pnt_c {M : MM} {B n s : Nat} {w : Nat → Option Nat} {cl : Nat → Nat} (h : s < n) : pnt M B w cl n (B + 16) s = nI (cl s) := by simp [pnt, h]
theorem TdM.of {B : Nat} {M M' : MM} {t : Td} (h : TdM B M t) (h0 : M' B 0 = M B 0) (h1 : M' (B + 1) = M (B + 1)) : TdM B M' t := by
  refine ⟨h0.trans h.1, h.2.1, fun i hi => ?_⟩
  rw [h1]
  exact h.2.2 i hi
theorem wI_neg {o : Option Nat} (h : ∀ i, o = some i → i < 2 ^ 31) : (wI o < 0) ↔ o = none := by
  cases o with
  | none => simp [wI]
  | some i =>
    simp only [wI]
    constructor
    · intro h2; exact absurd h2 (nI_pos (h i rfl))
    · intro h2; cases h2
theorem m_paint {sh : Sh} {Mr : MR} {B : Nat} (hB : MD sh Mr B) (M : MM) (t : Td) (p : Pl) (ht : TdM B M t) (hp : NowM B M t.1 p) : CtV mX9_paint [.ref B] sh Mr M (fun M' => M' = pnt M B (who t p (fun i => !bt (M B 25) i)) (cof t p (fun i => !bt (M B 25) i) (bt (M (B + 14) 1))) 24) := by
  have h6 := ht.2.1
  generalize hw : who t p (fun i => !bt (M B 25) i) = w
  have hcl : ∀ s, cof t p (fun i => !bt (M B 25) i) (bt (M (B + 14) 1)) s = clo t (w s) (bt (M (B + 14) 1) s) := fun s => by rw [← hw]; rfl
  generalize cof t p (fun i => !bt (M B 25) i) (bt (M (B + 14) 1)) = cl at hcl ⊢
  refine ct_of (mi := mX9_paint) (ls := [some (.ref B), none, none, none, none]) rfl rfl (Nat.le_of_ble_eq_true rfl) rfl ?_
  refine (ex_iconst (v := nI 0) dX9_paint_0 rfl (ex_is1 dX9_paint_1 (Nat.le_of_ble_eq_true rfl) rfl ?_))
  refine ex_for (I := fun s ls M' => (∃ o2 o3 o4, ls = [some (.ref B), some (.int (nI s)), o2, o3, o4]) ∧ M' = pnt M B w cl s) 24 ?_ ?_ 0 _ _ (Nat.zero_le _) ⟨⟨_, _, _, rfl⟩, pnt_0.symm⟩
  · intro s ls M1 hs h ihs
    obtain ⟨⟨o2, o3, o4, rfl⟩, rfl⟩ := h
    have hlt : ∀ i, i < t.1 → i < 2 ^ 31 := fun i hi => by omega
    refine (ex_il1 dX9_paint_2 (ex_bipush (v := nI 24) dX9_paint_3 rfl (ex_icmp_geN (tgt := 162) dX9_paint_5 rfl (by omega) (by omega) (fun c5 => (absurd c5 (by omega))) (fun c5 => (ex_al0 dX9_paint_8 (ex_getR dX9_paint_9 flX9_52 (md_sh hB) (md_r26 hB) (ex_il1 dX9_paint_12 (ex_iconst (v := (-1)) dX9_paint_13 rfl (ex_istN dX9_paint_14 (md_a26 hB) (by omega) (by omega) (ex_al0 dX9_paint_15 (ex_getI dX9_paint_16 flX9_85 (md_sh hB) (ex_top (y := nI (t.1)) (by rw [wr_oc (by omega), pnt_oc (by omega) (by omega)]; exact ht.1) (ex_iconst (v := nI 1) dX9_paint_19 rfl (ex_isub dX9_paint_20 (ex_is2 dX9_paint_21 (Nat.le_of_ble_eq_true rfl) rfl ?_)))))))))))))))
    have hws : w s = fst (fun i => !bt (M B 25) i && shn t p i s) t.1 := by rw [← hw]; rfl
    generalize hq : (fun i => !bt (M B 25) i && shn t p i s) = q at hws
    refine ex_down (I := fun i ls M' => (∃ o3 o4, i ≤ t.1 ∧ ls = [some (.ref B), some (.int (nI s)), some (.int (nI i - nI 1)), o3, o4]) ∧ M' = wr (pnt M B w cl s) (B + 15) s (wI (lst q i t.1))) ?_ ?_ t.1 _ _ ⟨⟨_, _, Nat.le_refl _, rfl⟩, by rw [lst_n]; rfl⟩
    · intro i ls M2 h ihi
      obtain ⟨⟨o3, o4, hi, rfl⟩, rfl⟩ := h
      have hi : i < t.1 := hi
      obtain ⟨d1, d2, d3, d4⟩ := hp.2.2 i hi
      rw [pk_sub (show 1 ≤ i + 1 by omega), Nat.add_sub_cancel]
      generalize hM2 : wr (pnt M B w cl s) (B + 15) s (wI (lst q (i + 1) t.1)) = M2 at ihi ⊢
      have hk : ∀ c, c ≠ B + 15 → c ≠ B + 16 → M2 c = M c := fun c e1 e2 => by rw [← hM2, wr_oc e1, pnt_oc e1 e2]
      have hqi : q i = (!bt (M B 25) i && (decide ((s + 24 - p.2.1 i) % 24 < p.2.2 i) && kOK t p.1 i ((s + 24 - p.2.1 i) % 24))) := by rw [← hq]; rfl
      have hst : lst q i t.1 = if q i then some i else lst q (i + 1) t.1 := lst_s hi
      have J : EV mX9_paint sh Mr (fun M' => M' = pnt M B w cl 24) 82 [some (.ref B), some (.int (nI s)), some (.int (nI i)), some (.int (nI ((s + 24 - p.2.1 i) % 24))), o4] [.int (bI (q i))] M2 := by
        refine (ex_is4 dX9_paint_82 (Nat.le_of_ble_eq_true rfl) rfl (ex_al0 dX9_paint_84 (ex_getR dX9_paint_85 flX9_52 (md_sh hB) (md_r26 hB) (ex_il1 dX9_paint_88 (ex_il4 dX9_paint_89 (ex_ifB_eq (tgt := 98) dX9_paint_91 rfl (fun c91 => ?_) (fun c91 => ?_)))))))
        · refine (ex_al0 dX9_paint_98 (ex_getR dX9_paint_99 flX9_52 (md_sh hB) (md_r26 hB) (ex_il1 dX9_paint_102 (ex_ildN dX9_paint_103 (md_a26 hB) (by omega) (by omega) (ex_istN dX9_paint_104 (md_a26 hB) (by omega) (by omega) (ex_inc2 dX9_paint_105 (Nat.le_of_ble_eq_true rfl) rfl (dec1s i) (ex_goto (tgt := 22) dX9_paint_108 rfl ?_)))))))
          refine ihi _ _ ⟨⟨_, _, by omega, rfl⟩, ?_⟩
          rw [hst, if_neg (by rw [c91]; decide), ← hM2, wr_s, wr_wr]
        · refine (ex_il2 dX9_paint_94 (ex_goto (tgt := 104) dX9_paint_95 rfl (ex_istN dX9_paint_104 (md_a26 hB) (by omega) (by omega) (ex_inc2 dX9_paint_105 (Nat.le_of_ble_eq_true rfl) rfl (dec1s i) (ex_goto (tgt := 22) dX9_paint_108 rfl ?_)))))
          refine ihi _ _ ⟨⟨_, _, by omega, rfl⟩, ?_⟩
          rw [hst, if_pos c91, ← hM2, wr_wr]; rfl
      refine (ex_il2 dX9_paint_22 (ex_if_lt (tgt := 111) dX9_paint_23 rfl (fun c23 => (absurd c23 (nI_pos (by omega)))) (fun c23 => (ex_il1 dX9_paint_26 (ex_bipush (v := nI 24) dX9_paint_27 rfl (ex_iaddN dX9_paint_29 (ex_al0 dX9_paint_30 (ex_getR dX9_paint_31 flX9_49 (md_sh hB) (md_r24 hB) (ex_bipush (v := nI 8) dX9_paint_34 rfl (ex_il2 dX9_paint_36 (ex_iaddN dX9_paint_37 (ex_ildN dX9_paint_38 (md_a24 hB) (by omega) (by omega) (ex_top (y := nI ((p.2.1 i))) (by rw [hk _ (by omega) (by omega)]; exact d1) (ex_isubN dX9_paint_39 (by omega) (ex_bipush (v := nI 24) dX9_paint_40 rfl (ex_iremN dX9_paint_42 ⟨by omega, by omega, by omega⟩ (ex_is3 dX9_paint_43 (Nat.le_of_ble_eq_true rfl) rfl (ex_il3 dX9_paint_44 (ex_al0 dX9_paint_45 (ex_getR dX9_paint_46 flX9_49 (md_sh hB) (md_r24 hB) (ex_bipush (v := nI 14) dX9_paint_49 rfl (ex_il2 dX9_paint_51 (ex_iaddN dX9_paint_52 (ex_ildN dX9_paint_53 (md_a24 hB) (by omega) (by omega) (ex_top (y := nI ((p.2.2 i))) (by rw [hk _ (by omega) (by omega)]; exact d3) (ex_icmp_geN (tgt := 81) dX9_paint_54 rfl (by omega) (by omega) (fun c54 => ?_) (fun c54 => ?_)))))))))))))))))))))))))))
      · refine (ex_iconst (v := nI 0) dX9_paint_81 rfl ?_)
        exact ex_top (bI_ff (by rw [hqi]; simp; intro _ h; omega)) J
      · refine (ex_al0 dX9_paint_57 (ex_getI dX9_paint_58 flX9_161 (md_sh hB) (ex_il2 dX9_paint_61 (ex_SP2 dX9_paint_62 lkX9_167 ⟨(Nat.le_of_ble_eq_true rfl), (Nat.le_of_ble_eq_true rfl)⟩ ⟨Nat.le_refl _, Nat.le_refl _⟩ (Nat.le_of_ble_eq_true rfl) (m_has _ i (by omega) sh Mr M2) (ex_ifB_ne (tgt := 81) dX9_paint_65 rfl (fun c65 => ?_) (fun c65 => ?_))))))
        · refine (ex_iconst (v := nI 0) dX9_paint_81 rfl ?_)
          exact ex_top (bI_ff (by rw [hqi, ← hk B (by omega) (by omega), c65]; rfl)) J
        · refine (ex_al0 dX9_paint_68 (ex_il2 dX9_paint_69 (ex_il3 dX9_paint_70 (ex_VP2 dX9_paint_71 lkX9_171 (md_sh hB) ⟨_, _, rfl⟩ ⟨(Nat.le_of_ble_eq_true rfl), (Nat.le_of_ble_eq_true rfl)⟩ ⟨Nat.le_refl _, Nat.le_refl _⟩ (Nat.le_of_ble_eq_true rfl) (m_shines hB M2 t (ht.of (by rw [hk B (by omega) (by omega)]) (hk _ (by omega) (by omega))) i _ p.1 hi (Nat.mod_lt _ (by decide)) (by rw [hk _ (by omega) (by omega)]; exact hp.1) hp.2.1) (ex_ifB_eq (tgt := 81) dX9_paint_74 rfl (fun c74 => ?_) (fun c74 => ?_))))))
          · refine (ex_iconst (v := nI 0) dX9_paint_81 rfl ?_)
            exact ex_top (bI_ff (by rw [hqi, c74]; simp)) J
          · refine (ex_iconst (v := nI 1) dX9_paint_77 rfl (ex_goto (tgt := 82) dX9_paint_78 rfl ?_))
            exact ex_top (bI_tt (by rw [hqi, ← hk B (by omega) (by omega), c65, c74]; simp; omega)) J
    · intro ls M2 h
      obtain ⟨⟨o3, o4, hi, rfl⟩, rfl⟩ := h
      rw [lst_0, ← hws]
      have hwl : ∀ i, w s = some i → i < t.1 := fun i h => by rw [hws] at h; exact (fst_some h).1
      generalize hM2 : wr (pnt M B w cl s) (B + 15) s (wI (w s)) = M2
      have hk : ∀ c, c ≠ B + 15 → c ≠ B + 16 → M2 c = M c := fun c e1 e2 => by rw [← hM2, wr_oc e1, pnt_oc e1 e2]
      have hMs : M2 (B + 15) s = wI (w s) := by rw [← hM2, wr_s]
      have J : EV mX9_paint sh Mr (fun M' => M' = pnt M B w cl 24) 155 [some (.ref B), some (.int (nI s)), some (.int (nI 0 - nI 1)), o3, o4] [.int (nI (cl s)), .int (nI s), .ref (B + 16)] M2 := by
        refine (ex_istN dX9_paint_155 (md_a27 hB) (by omega) (by omega) (ex_inc1 dX9_paint_156 (Nat.le_of_ble_eq_true rfl) rfl (inc1 _) (ex_goto (tgt := 2) dX9_paint_159 rfl ?_)))
        refine ihs _ _ ⟨⟨_, _, _, rfl⟩, ?_⟩
        rw [← hM2]; exact pnt_s
      refine (ex_il2 dX9_paint_22 (ex_if_lt (tgt := 111) dX9_paint_23 rfl (fun c23 => (ex_al0 dX9_paint_111 (ex_getR dX9_paint_112 flX9_55 (md_sh hB) (md_r27 hB) (ex_il1 dX9_paint_115 (ex_al0 dX9_paint_116 (ex_getR dX9_paint_117 flX9_52 (md_sh hB) (md_r26 hB) (ex_il1 dX9_paint_120 (ex_ildN dX9_paint_121 (md_a26 hB) (by omega) (by omega) (ex_top (hMs) (ex_if_lt (tgt := 138) dX9_paint_122 rfl (fun c122 => ?_) (fun c122 => ?_))))))))))) (fun c23 => (absurd (by decide) c23))))
      · refine (ex_iconst (v := nI 4) dX9_paint_138 rfl (ex_goto (tgt := 155) dX9_paint_139 rfl ?_))
        have h0 : w s = none := (wI_neg (fun i h => hlt i (hwl i h))).mp c122
        refine ex_top ?_ J
        rw [hcl, h0]; rfl
      · refine (ex_al0 dX9_paint_125 (ex_getR dX9_paint_126 flX9_49 (md_sh hB) (md_r24 hB) (ex_iconst (v := nI 1) dX9_paint_129 rfl (ex_ildN dX9_paint_130 (md_a24 hB) (by omega) (by omega) (ex_top (y := (M (B + 14) 1)) (by rw [hk _ (by omega) (by omega)]) (ex_il1 dX9_paint_131 (ex_SP2 dX9_paint_132 lkX9_167 ⟨(Nat.le_of_ble_eq_true rfl), (Nat.le_of_ble_eq_true rfl)⟩ ⟨Nat.le_refl _, Nat.le_refl _⟩ (Nat.le_of_ble_eq_true rfl) (m_has _ s (by omega) sh Mr M2) (ex_ifB_eq (tgt := 142) dX9_paint_135 rfl (fun c135 => ?_) (fun c135 => ?_)))))))))
        · cases hws2 : w s with
          | none => exact absurd ((wI_neg (fun i h => hlt i (hwl i h))).mpr hws2) c122
          | some i =>
            have hi2 := hwl i hws2
            refine (ex_al0 dX9_paint_142 (ex_getR dX9_paint_143 flX9_7 (md_sh hB) (md_r1 hB) (ex_iconst (v := nI 3) dX9_paint_146 rfl (ex_al0 dX9_paint_147 (ex_getR dX9_paint_148 flX9_52 (md_sh hB) (md_r26 hB) (ex_il1 dX9_paint_151 (ex_ildN dX9_paint_152 (md_a26 hB) (by omega) (by omega) (ex_top (y := nI (i)) (by rw [hMs, hws2]; rfl) (ex_imulN dX9_paint_153 (ex_ildN dX9_paint_154 (md_a1 hB) (by omega) (by omega) (ex_top (y := (nI (t.2.1 i))) (by rw [hk _ (by omega) (by omega)]; exact (ht.2.2 i hi2).1) ?_)))))))))))
            refine ex_top ?_ J
            rw [hcl, hws2, c135]; rfl
        · refine (ex_iconst (v := nI 4) dX9_paint_138 rfl (ex_goto (tgt := 155) dX9_paint_139 rfl ?_))
          refine ex_top ?_ J
          rw [hcl, c135]
          cases w s <;> rfl
  · intro ls M' h
    obtain ⟨⟨o2, o3, o4, rfl⟩, rfl⟩ := h
    refine (ex_il1 dX9_paint_2 (ex_bipush (v := nI 24) dX9_paint_3 rfl (ex_icmp_geN (tgt := 162) dX9_paint_5 rfl (by omega) (by omega) (fun c5 => (ex_rv dX9_paint_162 rfl (rfl))) (fun c5 => (absurd (Nat.le_refl 24) c5)))))
