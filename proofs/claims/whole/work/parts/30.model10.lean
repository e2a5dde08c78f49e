/-! the reference: rock, row, behind -/
theorem smN_le {f : Nat → Nat} {b : Nat} : ∀ (n : Nat), (∀ i, i < n → f i ≤ b) → smN f n ≤ n * b
  | 0, _ => by simp [smN]
  | n + 1, h => by
    have h1 := smN_le n (fun i hi => h i (by omega))
    have h2 := h n (by omega)
    unfold smN
    rw [Nat.add_mul]
    omega
theorem nS_le (o : To) (x : St) (li sm : Nat → Bool) (f : Nat) : nS o x li sm f ≤ o.2.1.1 := cnt_le _ _
theorem rkF_lt {on : Nat → Bool} {lost : Nat → Nat} : ∀ {m : Nat} {q : Nat × Nat}, rkF on lost m = some q → q.1 < m ∧ q.2 = lost q.1
  | 0, q, h => by cases h
  | m + 1, q, h => by
    unfold rkF at h
    split at h
    · cases hr : rkF on lost m with
      | none => rw [hr] at h; cases h; exact ⟨by simp, rfl⟩
      | some r =>
        rw [hr] at h
        simp only at h
        split at h
        · cases h; exact ⟨by simp, rfl⟩
        · cases h
          have := rkF_lt hr
          exact ⟨by omega, this.2⟩
    · have := rkF_lt h
      exact ⟨by omega, this.2⟩
theorem nI_ne4 {a : Nat} (h : a < 2 ^ 31) : ¬ nI a = -4 := by
  intro e
  have h1 := congrArg Int32.toInt e
  rw [nI_toInt h] at h1
  rw [show ((-4 : Int32)).toInt = -4 by decide] at h1
  omega
theorem r_rock {sh : Sh} {Mr : MR} {B : Nat} (hB : MD sh Mr B) (M : MM) (g : Sg) (hg : RM B M g) (hv : sgV g) (w : Int32) : CtI mX9_rock [.ref B, .int w] sh Mr M (PM B M (d_rock g w)) := by
  have h5 := hv.1.2.1.1
  have h6 := hv.1.1.1
  refine ct_of (mi := mX9_rock) (ls := [some (.ref B), some (.int w), none, none, none, none, none, none]) rfl rfl (Nat.le_of_ble_eq_true rfl) rfl ?_
  refine (ex_il1 dX9_rock_0 (ex_iconst (v := nI 0) dX9_rock_1 rfl (ex_iconst (v := nI 1) dX9_rock_2 rfl (ex_SP3 dX9_rock_3 lkX9_88 ⟨(Nat.le_of_ble_eq_true rfl), (Nat.le_of_ble_eq_true rfl)⟩ ⟨Nat.le_refl _, Nat.le_refl _⟩ (Nat.le_of_ble_eq_true rfl) (m_in _ _ _ _ _ _) (ex_ifB_ne (tgt := 11) dX9_rock_6 rfl (fun c6 => ?_) (fun c6 => ?_))))))
  · have hd : d_rock g w = (if w = nI 0 then wN ((rkS g.1 g.2.1).map Prod.fst) else wN ((rkS g.1 g.2.1).map Prod.snd), g) := by simp [d_rock, c6]
    rw [hd]
    have hrk : rkS g.1 g.2.1 = rkF (fun s => !decide (cl0 g.1 g.2.1 s = 4)) (fun s => lostS g.1 g.2.1 (fun j => bt g.2.1.2.1 j || decide (j = s))) 24 := rfl
    generalize hon : (fun s => !decide (cl0 g.1 g.2.1 s = 4)) = on at hrk
    generalize hlo : (fun s => lostS g.1 g.2.1 (fun j => bt g.2.1.2.1 j || decide (j = s))) = lo at hrk
    have hl20 : ∀ s, lo s ≤ 20 := fun s => by
      rw [← hlo]
      exact smN_le 4 (fun i _ => (by omega : g.1.2.1.1 - nS g.1 g.2.1 (lit g.1 g.2.1) (fun j => bt g.2.1.2.1 j || decide (j = s)) i ≤ 5))
    refine (ex_al0 dX9_rock_11 (ex_VV0 dX9_rock_12 lkX9_190 (md_sh hB) ⟨_, _, rfl⟩ ⟨(Nat.le_of_ble_eq_true rfl), (Nat.le_of_ble_eq_true rfl)⟩ ⟨Nat.le_refl _, Nat.le_refl _⟩ (Nat.le_of_ble_eq_true rfl) (r_asItIs hB M g hg) (fun M12 h12 => ?_)))
    subst h12
    refine (ex_al0 dX9_rock_15 (ex_VV0 dX9_rock_16 lkX9_199 (md_sh hB) ⟨_, _, rfl⟩ ⟨(Nat.le_of_ble_eq_true rfl), (Nat.le_of_ble_eq_true rfl)⟩ ⟨Nat.le_refl _, Nat.le_refl _⟩ (Nat.le_of_ble_eq_true rfl) (r_paint hB M g hg hv) (fun M16 h16 => (ex_iconst (v := nI 0) dX9_rock_19 rfl (ex_is2 dX9_rock_20 (Nat.le_of_ble_eq_true rfl) rfl (ex_iconst (v := nI 0) dX9_rock_21 rfl (ex_is3 dX9_rock_22 (Nat.le_of_ble_eq_true rfl) rfl ?_)))))))
    subst h16
    refine ex_for (I := fun s ls M' => ls = [some (.ref B), some (.int w), some (.int (bset on s)), some (.int (nI s)), none, none, none, none] ∧ M' = lgt B g M) 24 ?_ ?_ 0 _ _ (Nat.zero_le _) ⟨rfl, rfl⟩
    · intro s ls M' hs h ih
      obtain ⟨rfl, rfl⟩ := h
      have hos : on s = !decide (cl0 g.1 g.2.1 s = 4) := by rw [← hon]
      have hc4 := cl0_le hv s
      refine (ex_il3 dX9_rock_23 (ex_bipush (v := nI 24) dX9_rock_24 rfl (ex_icmp_geN (tgt := 55) dX9_rock_26 rfl (by omega) (by omega) (fun c26 => (absurd c26 (by omega))) (fun c26 => (ex_il2 dX9_rock_29 (ex_al0 dX9_rock_30 (ex_getR dX9_rock_31 flX9_55 (md_sh hB) (md_r27 hB) (ex_il3 dX9_rock_34 (ex_ildN dX9_rock_35 (md_a27 hB) (by omega) (by omega) (ex_top (lgt_c hs) (ex_iconst (v := nI 4) dX9_rock_36 rfl (ex_icmp_eqN (tgt := 46) dX9_rock_37 rfl (by omega) (by omega) (fun c37 => ?_) (fun c37 => ?_)))))))))))))
      · refine (ex_iconst (v := nI 0) dX9_rock_46 rfl (ex_ior dX9_rock_47 (ex_top (bset_f (by rw [hos]; simp [c37])) (ex_is2 dX9_rock_48 (Nat.le_of_ble_eq_true rfl) rfl (ex_inc3 dX9_rock_49 (Nat.le_of_ble_eq_true rfl) rfl (inc1 _) (ex_goto (tgt := 23) dX9_rock_52 rfl ?_))))))
        exact ih _ _ ⟨rfl, rfl⟩
      · refine (ex_iconst (v := nI 1) dX9_rock_40 rfl (ex_il3 dX9_rock_41 (ex_ishl dX9_rock_42 (ex_goto (tgt := 47) dX9_rock_43 rfl (ex_ior dX9_rock_47 (ex_top (bset_t (by rw [hos]; simp [c37])) (ex_is2 dX9_rock_48 (Nat.le_of_ble_eq_true rfl) rfl (ex_inc3 dX9_rock_49 (Nat.le_of_ble_eq_true rfl) rfl (inc1 _) (ex_goto (tgt := 23) dX9_rock_52 rfl ?_)))))))))
        exact ih _ _ ⟨rfl, rfl⟩
    · intro ls M' h
      obtain ⟨rfl, rfl⟩ := h
      refine (ex_il3 dX9_rock_23 (ex_bipush (v := nI 24) dX9_rock_24 rfl (ex_icmp_geN (tgt := 55) dX9_rock_26 rfl (by omega) (by omega) (fun c26 => (ex_bipush (v := (-4)) dX9_rock_55 rfl (ex_is3 dX9_rock_57 (Nat.le_of_ble_eq_true rfl) rfl (ex_bipush (v := (-4)) dX9_rock_58 rfl (ex_is4 dX9_rock_60 (Nat.le_of_ble_eq_true rfl) rfl (ex_iconst (v := nI 0) dX9_rock_62 rfl (ex_is5 dX9_rock_63 (Nat.le_of_ble_eq_true rfl) rfl ?_))))))) (fun c26 => (absurd (Nat.le_refl 24) c26)))))
      refine ex_for (I := fun s ls M' => (∃ o6 o7, ls = [some (.ref B), some (.int w), some (.int (bset on 24)), some (.int (wN ((rkF on lo s).map Prod.fst))), some (.int (wN ((rkF on lo s).map Prod.snd))), some (.int (nI s)), o6, o7]) ∧ RM B M' g ∧ ∀ c, c < B → M' c = M c) 24 ?_ ?_ 0 _ _ (Nat.zero_le _) ⟨⟨_, _, rfl⟩, lgt_RM hg, fun c hc => lgt_oc (Or.inl hc)⟩
      · intro s ls M' hs h ih
        obtain ⟨⟨o6, o7, rfl⟩, hg', hfr⟩ := h
        have hls := hl20 s
        have hst : rkF on lo (s + 1) = if on s then (match rkF on lo s with | none => some (s, lo s) | some q => if lo s < q.2 then some (s, lo s) else some q) else rkF on lo s := rfl
        refine (ex_il5 dX9_rock_65 (ex_bipush (v := nI 24) dX9_rock_67 rfl (ex_icmp_geN (tgt := 191) dX9_rock_69 rfl (by omega) (by omega) (fun c69 => (absurd c69 (by omega))) (fun c69 => (ex_il2 dX9_rock_72 (ex_il5 dX9_rock_73 (ex_SP2 dX9_rock_75 lkX9_167 ⟨(Nat.le_of_ble_eq_true rfl), (Nat.le_of_ble_eq_true rfl)⟩ ⟨Nat.le_refl _, Nat.le_refl _⟩ (Nat.le_of_ble_eq_true rfl) (m_has _ s (by omega) sh Mr M') (ex_ifB_eq (tgt := 185) dX9_rock_78 rfl (fun c78 => ?_) (fun c78 => ?_)))))))))
        · rw [bt_bset on 24 (by omega) s (by omega)] at c78
          have hoff : on s = false := by simpa [hs] using c78
          refine (ex_inc5 dX9_rock_185 (Nat.le_of_ble_eq_true rfl) rfl (inc1 _) (ex_goto (tgt := 65) dX9_rock_188 rfl ?_))
          refine ih _ _ ⟨⟨o6, o7, ?_⟩, hg', hfr⟩
          rw [hst, hoff]; rfl
        · rw [bt_bset on 24 (by omega) s (by omega)] at c78
          have hon2 : on s = true := by simpa [hs] using c78
          refine (ex_al0 dX9_rock_81 (ex_VV0 dX9_rock_82 lkX9_190 (md_sh hB) ⟨_, _, rfl⟩ ⟨(Nat.le_of_ble_eq_true rfl), (Nat.le_of_ble_eq_true rfl)⟩ ⟨Nat.le_refl _, Nat.le_refl _⟩ (Nat.le_of_ble_eq_true rfl) (r_asItIs hB M' g hg') (fun M82 h82 => ?_)))
          subst h82
          have hli : ∀ j, j < g.1.1.1 → (!bt (wr (asIs B g.1.1.1 M') (B + 14) 1 (g.2.1.2.1 ||| (nI 1 <<< (nI s &&& 31))) B 25) j) = lit g.1 g.2.1 j := fun j hj => by
            rw [wr_oc (by omega)]; exact asIs_lit hg' hj
          have hsm : ∀ j, j < 24 → bt (wr (asIs B g.1.1.1 M') (B + 14) 1 (g.2.1.2.1 ||| (nI 1 <<< (nI s &&& 31))) (B + 14) 1) j = (bt g.2.1.2.1 j || decide (j = s)) := fun j hj => by
            rw [wr_s, b_or, one_shl (by omega) (by omega)]
          have hw : RM B (wr (asIs B g.1.1.1 M') (B + 14) 1 (g.2.1.2.1 ||| (nI 1 <<< (nI s &&& 31)))) g := (asIs_RM hg').of (fun k hk => by rw [wr_oc (by omega)]) (fun c h1 h2 => wr_oc (by omega))
          have hnow : NowM B (wr (asIs B g.1.1.1 M') (B + 14) 1 (g.2.1.2.1 ||| (nI 1 <<< (nI s &&& 31)))) g.1.1.1 (pl g.2.1) := by
            obtain ⟨n1, n2, n3⟩ := asIs_Now hg' hv
            refine ⟨by rw [wr_oi (by omega)]; exact n1, n2, fun i hi => ?_⟩
            rw [wr_oi (by omega), wr_oi (by omega)]
            exact n3 i hi
          have hMs : asIs B g.1.1.1 M' (B + 14) 1 = g.2.1.2.1 := by rw [asIs_now (by omega)]; exact hg'.2.2.2.2.1.2.1
          refine (ex_al0 dX9_rock_85 (ex_getR dX9_rock_86 flX9_49 (md_sh hB) (md_r24 hB) (ex_iconst (v := nI 1) dX9_rock_89 rfl (ex_dup2 dX9_rock_90 (ex_ildN dX9_rock_91 (md_a24 hB) (by omega) (by omega) (ex_top (hMs) (ex_iconst (v := nI 1) dX9_rock_92 rfl (ex_il5 dX9_rock_93 (ex_ishl dX9_rock_95 (ex_ior dX9_rock_96 (ex_istN dX9_rock_97 (md_a24 hB) (by omega) (by omega) (ex_al0 dX9_rock_98 (ex_VV0 dX9_rock_99 lkX9_199 (md_sh hB) ⟨_, _, rfl⟩ ⟨(Nat.le_of_ble_eq_true rfl), (Nat.le_of_ble_eq_true rfl)⟩ ⟨Nat.le_refl _, Nat.le_refl _⟩ (Nat.le_of_ble_eq_true rfl) (m_nS hB _ g hw hv (pl g.2.1) hnow _ _ hli rfl) (fun M99 h99 => ?_))))))))))))))
          subst h99
          have hcs : ∀ s2, s2 < 24 → pnt (wr (asIs B g.1.1.1 M') (B + 14) 1 (g.2.1.2.1 ||| (nI 1 <<< (nI s &&& 31)))) B (who g.1.1 (pl g.2.1) (lit g.1 g.2.1)) (cof g.1.1 (pl g.2.1) (lit g.1 g.2.1) (bt (wr (asIs B g.1.1.1 M') (B + 14) 1 (g.2.1.2.1 ||| (nI 1 <<< (nI s &&& 31))) (B + 14) 1))) 24 (B + 16) s2 = nI (cof g.1.1 (pl g.2.1) (lit g.1 g.2.1) (fun j => bt g.2.1.2.1 j || decide (j = s)) s2) ∧ cof g.1.1 (pl g.2.1) (lit g.1 g.2.1) (fun j => bt g.2.1.2.1 j || decide (j = s)) s2 ≤ 4 := fun s2 h2 => by
            refine ⟨?_, cof_le (fun i hi => (hv.1.1.2.2 i hi).1) s2⟩
            rw [pnt_c h2]
            unfold cof
            rw [hsm s2 h2]
          have hg2 := pnt_RM (w := who g.1.1 (pl g.2.1) (lit g.1 g.2.1)) (cl := cof g.1.1 (pl g.2.1) (lit g.1 g.2.1) (bt (wr (asIs B g.1.1.1 M') (B + 14) 1 (g.2.1.2.1 ||| (nI 1 <<< (nI s &&& 31))) (B + 14) 1))) hw
          have hfr2 : ∀ c, c < B → pnt (wr (asIs B g.1.1.1 M') (B + 14) 1 (g.2.1.2.1 ||| (nI 1 <<< (nI s &&& 31)))) B (who g.1.1 (pl g.2.1) (lit g.1 g.2.1)) (cof g.1.1 (pl g.2.1) (lit g.1 g.2.1) (bt (wr (asIs B g.1.1.1 M') (B + 14) 1 (g.2.1.2.1 ||| (nI 1 <<< (nI s &&& 31))) (B + 14) 1))) 24 c = M c := fun c hc => by rw [pnt_oc (by omega) (by omega), wr_oc (by omega), asIs_oc (by omega) (by omega)]; exact hfr c hc
          generalize pnt (wr (asIs B g.1.1.1 M') (B + 14) 1 (g.2.1.2.1 ||| (nI 1 <<< (nI s &&& 31)))) B (who g.1.1 (pl g.2.1) (lit g.1 g.2.1)) (cof g.1.1 (pl g.2.1) (lit g.1 g.2.1) (bt (wr (asIs B g.1.1.1 M') (B + 14) 1 (g.2.1.2.1 ||| (nI 1 <<< (nI s &&& 31))) (B + 14) 1))) 24 = M2 at hcs hg2 hfr2 ⊢
          have hlos : lo s = smN (fun f => g.1.2.1.1 - nS g.1 g.2.1 (lit g.1 g.2.1) (fun j => bt g.2.1.2.1 j || decide (j = s)) f) 4 := by rw [← hlo]; rfl
          refine (ex_iconst (v := nI 0) dX9_rock_102 rfl (ex_is6 dX9_rock_103 (Nat.le_of_ble_eq_true rfl) rfl (ex_iconst (v := nI 0) dX9_rock_105 rfl (ex_is7 dX9_rock_106 (Nat.le_of_ble_eq_true rfl) rfl ?_))))
          refine ex_for (I := fun f ls M' => ls = [some (.ref B), some (.int w), some (.int (bset on 24)), some (.int (wN ((rkF on lo s).map Prod.fst))), some (.int (wN ((rkF on lo s).map Prod.snd))), some (.int (nI s)), some (.int (nI (smN (fun f => g.1.2.1.1 - nS g.1 g.2.1 (lit g.1 g.2.1) (fun j => bt g.2.1.2.1 j || decide (j = s)) f) f))), some (.int (nI f))] ∧ M' = M2) 4 ?_ ?_ 0 _ _ (Nat.zero_le _) ⟨rfl, rfl⟩
          · intro f ls M' hf h ihf
            obtain ⟨rfl, rfl⟩ := h
            have hn5 := nS_le g.1 g.2.1 (lit g.1 g.2.1) (fun j => bt g.2.1.2.1 j || decide (j = s)) f
            refine (ex_il7 dX9_rock_108 (ex_iconst (v := nI 4) dX9_rock_110 rfl (ex_icmp_geN (tgt := 139) dX9_rock_111 rfl (by omega) (by omega) (fun c111 => (absurd c111 (by omega))) (fun c111 => (ex_il6 dX9_rock_114 (ex_al0 dX9_rock_116 (ex_getI dX9_rock_117 flX9_92 (md_sh hB) (ex_top (hg2.2.1.1) (ex_al0 dX9_rock_120 (ex_il7 dX9_rock_121 (ex_VP1 dX9_rock_123 lkX9_184 (md_sh hB) ⟨_, _, rfl⟩ ⟨(Nat.le_of_ble_eq_true rfl), (Nat.le_of_ble_eq_true rfl)⟩ ⟨Nat.le_refl _, Nat.le_refl _⟩ (Nat.le_of_ble_eq_true rfl) (m_sureIn hB _ g.1.2.1 hg2.2.1 _ hcs f hf) (ex_SP1 dX9_rock_126 lkX9_218 ⟨(Nat.le_of_ble_eq_true rfl), (Nat.le_of_ble_eq_true rfl)⟩ ⟨Nat.le_refl _, Nat.le_refl _⟩ (Nat.le_of_ble_eq_true rfl) (m_bits _ _ _ _) (ex_top (y := nI ((nS g.1 g.2.1 (lit g.1 g.2.1) (fun j => bt g.2.1.2.1 j || decide (j = s)) f))) (by rw [cnt_bset (by omega) (by omega)]; rfl) (ex_isubN dX9_rock_129 (by omega) (ex_iaddN dX9_rock_130 (ex_is6 dX9_rock_131 (Nat.le_of_ble_eq_true rfl) rfl (ex_inc7 dX9_rock_133 (Nat.le_of_ble_eq_true rfl) rfl (inc1 _) (ex_goto (tgt := 108) dX9_rock_136 rfl ?_))))))))))))))))))
            exact ihf _ _ ⟨rfl, rfl⟩
          · intro ls M' h
            obtain ⟨rfl, rfl⟩ := h
            have hsl : smN (fun f => g.1.2.1.1 - nS g.1 g.2.1 (lit g.1 g.2.1) (fun j => bt g.2.1.2.1 j || decide (j = s)) f) 4 = lo s := hlos.symm
            rw [hsl]
            have J : ∀ b : Bool, (b = true → rkF on lo (s + 1) = some (s, lo s)) → (b = false → rkF on lo (s + 1) = rkF on lo s) → EI mX9_rock sh Mr (PM B M (if w = nI 0 then wN ((rkS g.1 g.2.1).map Prod.fst) else wN ((rkS g.1 g.2.1).map Prod.snd), g)) 157 [some (.ref B), some (.int w), some (.int (bset on 24)), some (.int (wN ((rkF on lo s).map Prod.fst))), some (.int (wN ((rkF on lo s).map Prod.snd))), some (.int (nI s)), some (.int (nI (lo s))), some (.int (nI 4))] [.int (bI b)] M' := by
              intro b hb1 hb0
              refine (ex_is7 dX9_rock_157 (Nat.le_of_ble_eq_true rfl) rfl (ex_il7 dX9_rock_159 (ex_ifB_eq (tgt := 169) dX9_rock_161 rfl (fun c161 => ?_) (fun c161 => ?_))))
              · refine (ex_il3 dX9_rock_169 (ex_is3 dX9_rock_170 (Nat.le_of_ble_eq_true rfl) rfl (ex_il7 dX9_rock_171 (ex_ifB_eq (tgt := 181) dX9_rock_173 rfl (fun c173 => (ex_il4 dX9_rock_181 (ex_is4 dX9_rock_183 (Nat.le_of_ble_eq_true rfl) rfl (ex_inc5 dX9_rock_185 (Nat.le_of_ble_eq_true rfl) rfl (inc1 _) (ex_goto (tgt := 65) dX9_rock_188 rfl ?_))))) (fun c173 => (absurd c161 (by rw [c173]; decide)))))))
                refine ih _ _ ⟨⟨some (.int (nI (lo s))), some (.int (bI b)), ?_⟩, hg2, hfr2⟩
                rw [hb0 c161]
              · refine (ex_il5 dX9_rock_164 (ex_goto (tgt := 170) dX9_rock_166 rfl (ex_is3 dX9_rock_170 (Nat.le_of_ble_eq_true rfl) rfl (ex_il7 dX9_rock_171 (ex_ifB_eq (tgt := 181) dX9_rock_173 rfl (fun c173 => (absurd c173 (by rw [c161]; decide))) (fun c173 => (ex_il6 dX9_rock_176 (ex_goto (tgt := 183) dX9_rock_178 rfl (ex_is4 dX9_rock_183 (Nat.le_of_ble_eq_true rfl) rfl (ex_inc5 dX9_rock_185 (Nat.le_of_ble_eq_true rfl) rfl (inc1 _) (ex_goto (tgt := 65) dX9_rock_188 rfl ?_)))))))))))
                refine ih _ _ ⟨⟨some (.int (nI (lo s))), some (.int (bI b)), ?_⟩, hg2, hfr2⟩
                rw [hb1 c161]; rfl
            cases hr : rkF on lo s with
            | none =>
              have J1 := J true (fun _ => by rw [hst, hon2, hr]; rfl) (fun h => by cases h)
              rw [hr] at J1
              refine (ex_il7 dX9_rock_108 (ex_iconst (v := nI 4) dX9_rock_110 rfl (ex_icmp_geN (tgt := 139) dX9_rock_111 rfl (by omega) (by omega) (fun c111 => (ex_il3 dX9_rock_139 (ex_bipush (v := (-4)) dX9_rock_140 rfl (ex_icmp_eq (tgt := 152) dX9_rock_142 rfl (fun c142 => (ex_iconst (v := nI 1) dX9_rock_152 rfl (ex_goto (tgt := 157) dX9_rock_153 rfl ?_))) (fun c142 => (absurd rfl c142)))))) (fun c111 => (absurd (Nat.le_refl 4) c111)))))
              exact J1
            | some q =>
              obtain ⟨q1, q2⟩ := rkF_lt hr
              have hq20 := hl20 q.1
              rw [hr, show wN (Option.map Prod.fst (some q)) = nI q.1 from rfl, show wN (Option.map Prod.snd (some q)) = nI q.2 from rfl] at J
              rw [show wN (Option.map Prod.fst (some q)) = nI q.1 from rfl, show wN (Option.map Prod.snd (some q)) = nI q.2 from rfl]
              have hst2 : rkF on lo (s + 1) = if lo s < q.2 then some (s, lo s) else some q := by rw [hst, hon2, hr]; rfl
              refine (ex_il7 dX9_rock_108 (ex_iconst (v := nI 4) dX9_rock_110 rfl (ex_icmp_geN (tgt := 139) dX9_rock_111 rfl (by omega) (by omega) (fun c111 => (ex_il3 dX9_rock_139 (ex_bipush (v := (-4)) dX9_rock_140 rfl (ex_icmp_eq (tgt := 152) dX9_rock_142 rfl (fun c142 => (absurd c142 (nI_ne4 (by omega)))) (fun c142 => (ex_il6 dX9_rock_145 (ex_il4 dX9_rock_147 (ex_icmp_geN (tgt := 156) dX9_rock_149 rfl (by omega) (by omega) (fun c149 => ?_) (fun c149 => ?_))))))))) (fun c111 => (absurd (Nat.le_refl 4) c111)))))
              · refine (ex_iconst (v := nI 0) dX9_rock_156 rfl ?_)
                exact J false (fun h => by cases h) (fun _ => by rw [hst2, if_neg (by omega)])
              · refine (ex_iconst (v := nI 1) dX9_rock_152 rfl (ex_goto (tgt := 157) dX9_rock_153 rfl ?_))
                exact J true (fun _ => by rw [hst2, if_pos (by omega)]) (fun h => by cases h)
      · intro ls M' h
        obtain ⟨⟨o6, o7, rfl⟩, hg', hfr⟩ := h
        rcases w01 c6 with rfl | rfl
        · refine (ex_il5 dX9_rock_65 (ex_bipush (v := nI 24) dX9_rock_67 rfl (ex_icmp_geN (tgt := 191) dX9_rock_69 rfl (by omega) (by omega) (fun c69 => (ex_il1 dX9_rock_191 (ex_if_neN (tgt := 199) dX9_rock_192 rfl (by omega) (fun c192 => (absurd rfl c192)) (fun c192 => (ex_il3 dX9_rock_195 (ex_goto (tgt := 201) dX9_rock_196 rfl (ex_ri dX9_rock_201 rfl rfl (⟨by rw [if_pos rfl, hrk], hg', hfr⟩)))))))) (fun c69 => (absurd (Nat.le_refl 24) c69)))))
        · refine (ex_il5 dX9_rock_65 (ex_bipush (v := nI 24) dX9_rock_67 rfl (ex_icmp_geN (tgt := 191) dX9_rock_69 rfl (by omega) (by omega) (fun c69 => (ex_il1 dX9_rock_191 (ex_if_neN (tgt := 199) dX9_rock_192 rfl (by omega) (fun c192 => (ex_il4 dX9_rock_199 (ex_ri dX9_rock_201 rfl rfl (⟨by rw [if_neg (by decide), hrk], hg', hfr⟩)))) (fun c192 => (absurd c192 (by decide)))))) (fun c69 => (absurd (Nat.le_refl 24) c69)))))
  · refine (ex_iconst (v := (-1)) dX9_rock_9 rfl (ex_ri dX9_rock_10 rfl rfl (⟨by simp [d_rock, c6], hg, fun _ _ => rfl⟩)))
/-- counts from i on -/
def cntd (p : Nat → Bool) (i n : Nat) : Nat := cnt (fun k => decide (i ≤ k) && p k) n
theorem cntd_n (p : Nat → Bool) (n : Nat) : cntd p n n = 0 := by
  unfold cntd
  rw [cnt_more (a := 0) n (Nat.zero_le n) (fun i _ h => by simp [show ¬ n ≤ i by omega])]; rfl
theorem cntd_0 (p : Nat → Bool) (n : Nat) : cntd p 0 n = cnt p n := cnt_congr n (fun j _ => by simp)
theorem cntd_s {p : Nat → Bool} {i : Nat} : ∀ {n : Nat}, i < n → cntd p i n = cntd p (i + 1) n + (if p i then 1 else 0)
  | 0, h => by omega
  | n + 1, h => by
    unfold cntd
    rw [show ∀ q : Nat → Bool, cnt q (n + 1) = cnt q n + (if q n then 1 else 0) from fun q => rfl, show ∀ q : Nat → Bool, cnt q (n + 1) = cnt q n + (if q n then 1 else 0) from fun q => rfl]
    by_cases e : i = n
    · subst e
      rw [show cnt (fun k => decide (i ≤ k) && p k) i = 0 from cntd_n p i, show cnt (fun k => decide (i + 1 ≤ k) && p k) i = 0 from cnt_more (a := 0) i (Nat.zero_le i) (fun k _ h => by simp [show ¬ i + 1 ≤ k by omega])]
      simp
      intro h; omega
    · have ih := cntd_s (p := p) (i := i) (n := n) (by omega)
      unfold cntd at ih
      rw [ih]
      have e2 : (decide (i ≤ n) && p n) = (decide (i + 1 ≤ n) && p n) := by simp [show i ≤ n by omega, show i + 1 ≤ n by omega]
      rw [e2]; omega
theorem cntd_le (p : Nat → Bool) (i n : Nat) : cntd p i n ≤ n := cnt_le _ _
theorem lst_sN {p : Nat → Bool} {i n : Nat} (hi : i < n) : wN (lst p i n) = if p i then nI i else wN (lst p (i + 1) n) := by
  rw [lst_s hi]; split <;> rfl
theorem r_row {sh : Sh} {Mr : MR} {B : Nat} (hB : MD sh Mr B) (M : MM) (g : Sg) (hg : RM B M g) (hv : sgV g) (a b c w : Int32) : CtI mX9_row [.ref B, .int a, .int b, .int c, .int w] sh Mr M (PM B M (d_row g a b c w)) := by
  have J0 : (isC a && (isC b && (isC c && inB w (nI 0) (nI 1)))) = false → EI mX9_row sh Mr (PM B M (d_row g a b c w)) 37 [some (.ref B), some (.int a), some (.int b), some (.int c), some (.int w), none, none, none, none] [] M := by
    intro h
    refine (ex_iconst (v := (-1)) dX9_row_37 rfl (ex_ri dX9_row_38 rfl rfl (⟨by simp [d_row, h], hg, fun _ _ => rfl⟩)))
  refine ct_of (mi := mX9_row) (ls := [some (.ref B), some (.int a), some (.int b), some (.int c), some (.int w), none, none, none, none]) rfl rfl (Nat.le_of_ble_eq_true rfl) rfl ?_
  refine (ex_il1 dX9_row_0 (ex_iconst (v := nI 0) dX9_row_1 rfl (ex_iconst (v := nI 4) dX9_row_2 rfl (ex_SP3 dX9_row_3 lkX9_88 ⟨(Nat.le_of_ble_eq_true rfl), (Nat.le_of_ble_eq_true rfl)⟩ ⟨Nat.le_refl _, Nat.le_refl _⟩ (Nat.le_of_ble_eq_true rfl) (m_in _ _ _ _ _ _) (ex_ifB_eq (tgt := 37) dX9_row_6 rfl (fun c6 => ?_) (fun c6 => ?_))))))
  · exact J0 (by unfold isC; rw [c6]; rfl)
  · refine (ex_il2 dX9_row_9 (ex_iconst (v := nI 0) dX9_row_10 rfl (ex_iconst (v := nI 4) dX9_row_11 rfl (ex_SP3 dX9_row_12 lkX9_88 ⟨(Nat.le_of_ble_eq_true rfl), (Nat.le_of_ble_eq_true rfl)⟩ ⟨Nat.le_refl _, Nat.le_refl _⟩ (Nat.le_of_ble_eq_true rfl) (m_in _ _ _ _ _ _) (ex_ifB_eq (tgt := 37) dX9_row_15 rfl (fun c15 => ?_) (fun c15 => ?_))))))
    · exact J0 (by unfold isC; rw [c15]; simp)
    · refine (ex_il3 dX9_row_18 (ex_iconst (v := nI 0) dX9_row_19 rfl (ex_iconst (v := nI 4) dX9_row_20 rfl (ex_SP3 dX9_row_21 lkX9_88 ⟨(Nat.le_of_ble_eq_true rfl), (Nat.le_of_ble_eq_true rfl)⟩ ⟨Nat.le_refl _, Nat.le_refl _⟩ (Nat.le_of_ble_eq_true rfl) (m_in _ _ _ _ _ _) (ex_ifB_eq (tgt := 37) dX9_row_24 rfl (fun c24 => ?_) (fun c24 => ?_))))))
      · exact J0 (by unfold isC; rw [c24]; simp)
      · refine (ex_il4 dX9_row_27 (ex_iconst (v := nI 0) dX9_row_29 rfl (ex_iconst (v := nI 1) dX9_row_30 rfl (ex_SP3 dX9_row_31 lkX9_88 ⟨(Nat.le_of_ble_eq_true rfl), (Nat.le_of_ble_eq_true rfl)⟩ ⟨Nat.le_refl _, Nat.le_refl _⟩ (Nat.le_of_ble_eq_true rfl) (m_in _ _ _ _ _ _) (ex_ifB_ne (tgt := 39) dX9_row_34 rfl (fun c34 => ?_) (fun c34 => ?_))))))
        · have hd : d_row g a b c w = (if w = nI 0 then nI (cnt (rwP (cl0 g.1 g.2.1) a b c) 24) else wN (fst (rwP (cl0 g.1 g.2.1) a b c) 24), g) := by unfold d_row isC; rw [c6, c15, c24, c34]; rfl
          rw [hd]
          have hrp : ∀ s, rwP (cl0 g.1 g.2.1) a b c s = (decide (nI (cl0 g.1 g.2.1 s) = a) && (decide (nI (cl0 g.1 g.2.1 ((s + 1) % 24)) = b) && decide (nI (cl0 g.1 g.2.1 ((s + 2) % 24)) = c))) := fun s => rfl
          generalize rwP (cl0 g.1 g.2.1) a b c = p at hrp ⊢
          refine (ex_al0 dX9_row_39 (ex_VV0 dX9_row_40 lkX9_190 (md_sh hB) ⟨_, _, rfl⟩ ⟨(Nat.le_of_ble_eq_true rfl), (Nat.le_of_ble_eq_true rfl)⟩ ⟨Nat.le_refl _, Nat.le_refl _⟩ (Nat.le_of_ble_eq_true rfl) (r_asItIs hB M g hg) (fun M40 h40 => ?_)))
          subst h40
          refine (ex_al0 dX9_row_43 (ex_VV0 dX9_row_44 lkX9_199 (md_sh hB) ⟨_, _, rfl⟩ ⟨(Nat.le_of_ble_eq_true rfl), (Nat.le_of_ble_eq_true rfl)⟩ ⟨Nat.le_refl _, Nat.le_refl _⟩ (Nat.le_of_ble_eq_true rfl) (r_paint hB M g hg hv) (fun M44 h44 => ?_)))
          subst h44
          refine (ex_iconst (v := nI 0) dX9_row_47 rfl (ex_is5 dX9_row_48 (Nat.le_of_ble_eq_true rfl) rfl (ex_bipush (v := (-4)) dX9_row_50 rfl (ex_is6 dX9_row_52 (Nat.le_of_ble_eq_true rfl) rfl (ex_bipush (v := nI 23) dX9_row_54 rfl (ex_is7 dX9_row_56 (Nat.le_of_ble_eq_true rfl) rfl ?_))))))
          refine ex_down (I := fun i ls M' => (∃ o8, i ≤ 24 ∧ ls = [some (.ref B), some (.int a), some (.int b), some (.int c), some (.int w), some (.int (nI (cntd p i 24))), some (.int (wN (lst p i 24))), some (.int (nI i - nI 1)), o8]) ∧ M' = lgt B g M) ?_ ?_ 24 _ _ ⟨⟨none, Nat.le_refl _, by rw [cntd_n, lst_n]; rfl⟩, rfl⟩
          · intro s ls M' h ih
            obtain ⟨⟨o8, hs, rfl⟩, rfl⟩ := h
            have hs : s < 24 := hs
            have hc24 := cntd_le p (s + 1) 24
            rw [pk_sub (show 1 ≤ s + 1 by omega), Nat.add_sub_cancel]
            have J : EI mX9_row sh Mr (PM B M (if w = nI 0 then nI (cnt p 24) else wN (fst p 24), g)) 111 [some (.ref B), some (.int a), some (.int b), some (.int c), some (.int w), some (.int (nI (cntd p (s + 1) 24))), some (.int (wN (lst p (s + 1) 24))), some (.int (nI s)), o8] [.int (bI (p s))] (lgt B g M) := by
              refine (ex_is8 dX9_row_111 (Nat.le_of_ble_eq_true rfl) rfl (ex_il5 dX9_row_113 (ex_il8 dX9_row_115 (ex_ifB_eq (tgt := 124) dX9_row_117 rfl (fun c117 => ?_) (fun c117 => ?_)))))
              · refine (ex_iconst (v := nI 0) dX9_row_124 rfl (ex_iaddN dX9_row_125 (ex_is5 dX9_row_126 (Nat.le_of_ble_eq_true rfl) rfl (ex_il8 dX9_row_128 (ex_ifB_eq (tgt := 138) dX9_row_130 rfl (fun c130 => (ex_il6 dX9_row_138 (ex_is6 dX9_row_140 (Nat.le_of_ble_eq_true rfl) rfl (ex_inc7 dX9_row_142 (Nat.le_of_ble_eq_true rfl) rfl (dec1s s) (ex_goto (tgt := 58) dX9_row_145 rfl ?_))))) (fun c130 => (absurd c117 (by rw [c130]; decide))))))))
                refine ih _ _ ⟨⟨some (.int (bI (p s))), by omega, ?_⟩, rfl⟩
                rw [cntd_s hs, lst_sN hs, c117]; rfl
              · refine (ex_iconst (v := nI 1) dX9_row_120 rfl (ex_goto (tgt := 125) dX9_row_121 rfl (ex_iaddN dX9_row_125 (ex_is5 dX9_row_126 (Nat.le_of_ble_eq_true rfl) rfl (ex_il8 dX9_row_128 (ex_ifB_eq (tgt := 138) dX9_row_130 rfl (fun c130 => (absurd c130 (by rw [c117]; decide))) (fun c130 => (ex_il7 dX9_row_133 (ex_goto (tgt := 140) dX9_row_135 rfl (ex_is6 dX9_row_140 (Nat.le_of_ble_eq_true rfl) rfl (ex_inc7 dX9_row_142 (Nat.le_of_ble_eq_true rfl) rfl (dec1s s) (ex_goto (tgt := 58) dX9_row_145 rfl ?_))))))))))))
                refine ih _ _ ⟨⟨some (.int (bI (p s))), by omega, ?_⟩, rfl⟩
                rw [cntd_s hs, lst_sN hs, c117]; rfl
            refine (ex_il7 dX9_row_58 (ex_if_lt (tgt := 148) dX9_row_60 rfl (fun c60 => (absurd c60 (nI_pos (by omega)))) (fun c60 => (ex_al0 dX9_row_63 (ex_getR dX9_row_64 flX9_55 (md_sh hB) (md_r27 hB) (ex_il7 dX9_row_67 (ex_ildN dX9_row_69 (md_a27 hB) (by omega) (by omega) (ex_top (lgt_c hs) (ex_il1 dX9_row_70 (ex_icmp_ne (tgt := 110) dX9_row_71 rfl (fun c71 => ?_) (fun c71 => ?_)))))))))))
            · refine (ex_iconst (v := nI 0) dX9_row_110 rfl ?_)
              exact ex_top (bI_ff (by rw [hrp]; simp [c71])) J
            · refine (ex_al0 dX9_row_74 (ex_getR dX9_row_75 flX9_55 (md_sh hB) (md_r27 hB) (ex_il7 dX9_row_78 (ex_iconst (v := nI 1) dX9_row_80 rfl (ex_iaddN dX9_row_81 (ex_bipush (v := nI 24) dX9_row_82 rfl (ex_iremN dX9_row_84 ⟨by omega, by omega, by omega⟩ (ex_ildN dX9_row_85 (md_a27 hB) (by omega) (Nat.mod_lt _ (by decide)) (ex_top (lgt_c (Nat.mod_lt _ (by decide))) (ex_il2 dX9_row_86 (ex_icmp_ne (tgt := 110) dX9_row_87 rfl (fun c87 => ?_) (fun c87 => ?_))))))))))))
              · refine (ex_iconst (v := nI 0) dX9_row_110 rfl ?_)
                exact ex_top (bI_ff (by rw [hrp]; simp [c87])) J
              · refine (ex_al0 dX9_row_90 (ex_getR dX9_row_91 flX9_55 (md_sh hB) (md_r27 hB) (ex_il7 dX9_row_94 (ex_iconst (v := nI 2) dX9_row_96 rfl (ex_iaddN dX9_row_97 (ex_bipush (v := nI 24) dX9_row_98 rfl (ex_iremN dX9_row_100 ⟨by omega, by omega, by omega⟩ (ex_ildN dX9_row_101 (md_a27 hB) (by omega) (Nat.mod_lt _ (by decide)) (ex_top (lgt_c (Nat.mod_lt _ (by decide))) (ex_il3 dX9_row_102 (ex_icmp_ne (tgt := 110) dX9_row_103 rfl (fun c103 => ?_) (fun c103 => ?_))))))))))))
                · refine (ex_iconst (v := nI 0) dX9_row_110 rfl ?_)
                  exact ex_top (bI_ff (by rw [hrp]; simp [c103])) J
                · refine (ex_iconst (v := nI 1) dX9_row_106 rfl (ex_goto (tgt := 111) dX9_row_107 rfl ?_))
                  exact ex_top (bI_tt (by rw [hrp]; simp [c71, c87, c103])) J
          · intro ls M' h
            obtain ⟨⟨o8, hs, rfl⟩, rfl⟩ := h
            rw [cntd_0, lst_0]
            rcases w01 c34 with rfl | rfl
            · refine (ex_il7 dX9_row_58 (ex_if_lt (tgt := 148) dX9_row_60 rfl (fun c60 => (ex_il4 dX9_row_148 (ex_if_neN (tgt := 158) dX9_row_150 rfl (by omega) (fun c150 => (absurd rfl c150)) (fun c150 => (ex_il5 dX9_row_153 (ex_goto (tgt := 160) dX9_row_155 rfl (ex_ri dX9_row_160 rfl rfl (⟨by rw [if_pos rfl], lgt_RM hg, fun c hc => lgt_oc (Or.inl hc)⟩)))))))) (fun c60 => (absurd (by decide) c60))))
            · refine (ex_il7 dX9_row_58 (ex_if_lt (tgt := 148) dX9_row_60 rfl (fun c60 => (ex_il4 dX9_row_148 (ex_if_neN (tgt := 158) dX9_row_150 rfl (by omega) (fun c150 => (ex_il6 dX9_row_158 (ex_ri dX9_row_160 rfl rfl (⟨by rw [if_neg (by decide)], lgt_RM hg, fun c hc => lgt_oc (Or.inl hc)⟩)))) (fun c150 => (absurd c150 (by decide)))))) (fun c60 => (absurd (by decide) c60))))
        · exact J0 (by rw [c34]; simp)
