/-! the class: the rock, the fewest -/
theorem s_rock {sh : Sh} {Mr : MR} {L D : Nat} (hG : GX sh Mr L D) (M : MM) (g : Sg) (hg : RX M L g) (hv : sgV g) (w : Int32) : CtI mX8_rock [.ref 0, .int w] sh Mr M (PX L M (d_rock g w)) := by
  have hL := GL hG
  have h5 := hv.1.2.1.1
  have h6 := hv.1.1.1
  refine ct_of (mi := mX8_rock) (ls := [some (.ref 0), some (.int w), none, none, none, none, none, none]) rfl rfl (Nat.le_of_ble_eq_true rfl) rfl ?_
  refine (ex_il1 dX8_rock_0 (ex_iconst (v := nI 0) dX8_rock_1 rfl (ex_iconst (v := nI 1) dX8_rock_2 rfl (ex_SP3 dX8_rock_3 lkX8_103 ⟨(Nat.le_of_ble_eq_true rfl), (Nat.le_of_ble_eq_true rfl)⟩ ⟨Nat.le_refl _, Nat.le_refl _⟩ (Nat.le_of_ble_eq_true rfl) (x_within _ _ _ _ _ _) (ex_ifB_ne (tgt := 11) dX8_rock_6 rfl (fun c6 => ?_) (fun c6 => ?_))))))
  · have hd : d_rock g w = (if w = nI 0 then wN ((rkS g.1 g.2.1).map Prod.fst) else wN ((rkS g.1 g.2.1).map Prod.snd), g) := by simp [d_rock, c6]
    rw [hd]
    have hrk : rkS g.1 g.2.1 = rkF (fun s => !decide (cl0 g.1 g.2.1 s = 4)) (fun s => lostS g.1 g.2.1 (fun j => bt g.2.1.2.1 j || decide (j = s))) 24 := rfl
    generalize hon : (fun s => !decide (cl0 g.1 g.2.1 s = 4)) = on at hrk
    generalize hlo : (fun s => lostS g.1 g.2.1 (fun j => bt g.2.1.2.1 j || decide (j = s))) = lo at hrk
    have hl20 : ∀ s, lo s ≤ 20 := fun s => by
      rw [← hlo]
      exact smN_le 4 (fun i _ => (by omega : g.1.2.1.1 - nS g.1 g.2.1 (lit g.1 g.2.1) (fun j => bt g.2.1.2.1 j || decide (j = s)) i ≤ 5))
    refine (ex_al0 dX8_rock_11 (ex_VV0 dX8_rock_12 lkX8_154 (gx0 hG) ⟨_, _, rfl⟩ ⟨(Nat.le_of_ble_eq_true rfl), (Nat.le_of_ble_eq_true rfl)⟩ ⟨Nat.le_refl _, Nat.le_refl _⟩ (Nat.le_of_ble_eq_true rfl) (x_now hG M g hg hv) (fun M12 h12 => ?_)))
    have hg1 := h12.R (by omega) hg
    have hbo : ∀ s, s < 24 → bt (M12 80 3 &&& (g.2.1.2.1 ^^^ (-1))) s = on s := fun s hs => by
      rw [b_and, bt_not _ (by omega), h12.2.1.1 s (by omega), ← hon]
      have h4 := cof_4 (t := g.1.1) (p := pl g.2.1) (lit := lit g.1 g.2.1) (smk := bt g.2.1.2.1) (fun i hi => (hv.1.1.2.2 i hi).1) s
      have e : decide (cl0 g.1 g.2.1 s = 4) = (!(wh g.1 g.2.1 s).isSome || bt g.2.1.2.1 s) := by
        by_cases h : cl0 g.1 g.2.1 s = 4
        · rw [decide_eq_true h]
          rcases h4.mp h with h1 | h1
          · unfold wh; rw [h1]; rfl
          · rw [h1]; simp
        · rw [decide_eq_false h]
          have n2 : bt g.2.1.2.1 s = false := by
            cases hb : bt g.2.1.2.1 s
            · rfl
            · exact absurd (h4.mpr (Or.inr hb)) h
          rw [n2]
          cases hw : wh g.1 g.2.1 s with
          | none => exact absurd (h4.mpr (Or.inl hw)) h
          | some k => rfl
      show (decide (s < 24) && (wh g.1 g.2.1 s).isSome && !bt g.2.1.2.1 s) = !decide (cl0 g.1 g.2.1 s = 4)
      rw [e]
      simp [hs]
    refine (ex_al0 dX8_rock_15 (ex_getR dX8_rock_16 flX8_65 (gx0 hG) (gr0_9 hG) (ex_getI dX8_rock_19 flX8_233 (gx80 hG) (ex_al0 dX8_rock_22 (ex_getR dX8_rock_23 flX8_36 (gx0 hG) (gr0_4 hG) (ex_getI dX8_rock_26 flX8_151 (sa_sh (sa25 hG)) (ex_top (hg1.2.1.2.1) (ex_iconst (v := (-1)) dX8_rock_29 rfl (ex_ixor dX8_rock_30 (ex_iand dX8_rock_31 (ex_is2 dX8_rock_32 (Nat.le_of_ble_eq_true rfl) rfl (ex_al0 dX8_rock_33 (ex_getR dX8_rock_34 flX8_36 (gx0 hG) (gr0_4 hG) (ex_al0 dX8_rock_37 (ex_getR dX8_rock_38 flX8_26 (gx0 hG) (gr0_2 hG) (ex_VP1 dX8_rock_41 lkX8_219 (sa_sh (sa25 hG)) ⟨_, _, rfl⟩ ⟨(Nat.le_of_ble_eq_true rfl), (Nat.le_of_ble_eq_true rfl)⟩ ⟨Nat.le_refl _, Nat.le_refl _⟩ (Nat.le_of_ble_eq_true rfl) (x_paying (sa25 hG) (laL hG) M12 g.1 hg1.1 g.2.1 hg1.2.1) (ex_is3 dX8_rock_44 (Nat.le_of_ble_eq_true rfl) rfl (ex_bipush (v := (-4)) dX8_rock_45 rfl (ex_is4 dX8_rock_47 (Nat.le_of_ble_eq_true rfl) rfl (ex_bipush (v := (-4)) dX8_rock_49 rfl (ex_is5 dX8_rock_51 (Nat.le_of_ble_eq_true rfl) rfl (ex_iconst (v := nI 0) dX8_rock_53 rfl (ex_is6 dX8_rock_54 (Nat.le_of_ble_eq_true rfl) rfl ?_)))))))))))))))))))))))
    generalize M12 80 3 &&& (g.2.1.2.1 ^^^ (-1)) = sn at hbo
    refine ex_for (I := fun s ls M' => (∃ o7, ls = [some (.ref 0), some (.int w), some (.int sn), some (.int (bset (lit g.1 g.2.1) g.1.1.1)), some (.int (wN ((rkF on lo s).map Prod.fst))), some (.int (wN ((rkF on lo s).map Prod.snd))), some (.int (nI s)), o7]) ∧ LnX M M' g) 24 ?_ ?_ 0 _ _ (Nat.zero_le _) ⟨⟨none, rfl⟩, h12.n⟩
    · intro s ls M1 hs h ih
      obtain ⟨⟨o7, rfl⟩, hn⟩ := h
      have hg2 := hn.R (by omega) hg
      have hls := hl20 s
      have hst : rkF on lo (s + 1) = if on s then (match rkF on lo s with | none => some (s, lo s) | some q => if lo s < q.2 then some (s, lo s) else some q) else rkF on lo s := rfl
      refine (ex_il6 dX8_rock_56 (ex_bipush (v := nI 24) dX8_rock_58 rfl (ex_icmp_geN (tgt := 138) dX8_rock_60 rfl (by omega) (by omega) (fun c60 => (absurd c60 (by omega))) (fun c60 => (ex_il2 dX8_rock_63 (ex_il6 dX8_rock_64 (ex_ishr dX8_rock_66 (ex_iconst (v := nI 1) dX8_rock_67 rfl (ex_iand dX8_rock_68 (ex_top (y := bI ((on s))) (by rw [bit1 _ (by omega), hbo s hs]) (ex_iconst (v := nI 1) dX8_rock_69 rfl (ex_icmp_ne (tgt := 132) dX8_rock_70 rfl (fun c70 => ?_) (fun c70 => ?_)))))))))))))
      · have hoff : on s = false := by
          cases h : on s
          · rfl
          · exact absurd (by rw [h]; rfl) c70
        refine (ex_inc6 dX8_rock_132 (Nat.le_of_ble_eq_true rfl) rfl (inc1 _) (ex_goto (tgt := 56) dX8_rock_135 rfl ?_))
        refine ih _ _ ⟨⟨o7, ?_⟩, hn⟩
        rw [hst, hoff]; rfl
      · have hon2 := bI_1.mp c70
        refine (ex_al0 dX8_rock_73 (ex_getR dX8_rock_74 flX8_65 (gx0 hG) (gr0_9 hG) (ex_al0 dX8_rock_77 (ex_getR dX8_rock_78 flX8_26 (gx0 hG) (gr0_2 hG) (ex_il3 dX8_rock_81 (ex_al0 dX8_rock_82 (ex_getR dX8_rock_83 flX8_36 (gx0 hG) (gr0_4 hG) (ex_getI dX8_rock_86 flX8_151 (sa_sh (sa25 hG)) (ex_top (hg2.2.1.2.1) (ex_iconst (v := nI 1) dX8_rock_89 rfl (ex_il6 dX8_rock_90 (ex_ishl dX8_rock_92 (ex_ior dX8_rock_93 (ex_VV3 dX8_rock_94 lkX8_236 (gx80 hG) ⟨_, _, rfl⟩ ⟨(Nat.le_of_ble_eq_true rfl), (Nat.le_of_ble_eq_true rfl)⟩ ⟨Nat.le_refl _, Nat.le_refl _⟩ (Nat.le_of_ble_eq_true rfl) (x_show hG M1 g.1 hg2.1 _ hn.2 (lit g.1 g.2.1) _ _ (fun i hi => by rw [bt_bset _ _ (by omega) i (by omega)]; simp [hi])) (fun M94 h94 => ?_)))))))))))))))
        obtain ⟨q1, q2⟩ := h94
        have hn2 := hn.tr q1
        have hg3 := hn2.R (by omega) hg
        have hco : CoX M94 (cof g.1.1 (pl g.2.1) (lit g.1 g.2.1) (fun j => bt g.2.1.2.1 j || decide (j = s))) := fun c hc s2 h2 => by
          have := q2.2.2 c hc s2 h2
          rw [b_or, one_shl (by omega) h2] at this
          exact this
        have hx := x_unsure hG M94 g.1 hg3.1 _ hco
        have hlos : smN (fun f => g.1.2.1.1 - cnt (sur (cof g.1.1 (pl g.2.1) (lit g.1 g.2.1) (fun j => bt g.2.1.2.1 j || decide (j = s))) g.1.2.1 f) g.1.2.1.1) 4 = lo s := by rw [← hlo]; rfl
        rw [hlos] at hx
        have J : rkF on lo (s + 1) = some (s, lo s) → EI mX8_rock sh Mr (PX L M (if w = nI 0 then wN ((rkS g.1 g.2.1).map Prod.fst) else wN ((rkS g.1 g.2.1).map Prod.snd), g)) 124 [some (.ref 0), some (.int w), some (.int sn), some (.int (bset (lit g.1 g.2.1) g.1.1.1)), some (.int (wN ((rkF on lo s).map Prod.fst))), some (.int (wN ((rkF on lo s).map Prod.snd))), some (.int (nI s)), some (.int (nI (lo s)))] [] M94 := by
          intro hb1
          refine (ex_il6 dX8_rock_124 (ex_is4 dX8_rock_126 (Nat.le_of_ble_eq_true rfl) rfl (ex_il7 dX8_rock_128 (ex_is5 dX8_rock_130 (Nat.le_of_ble_eq_true rfl) rfl (ex_inc6 dX8_rock_132 (Nat.le_of_ble_eq_true rfl) rfl (inc1 _) (ex_goto (tgt := 56) dX8_rock_135 rfl ?_))))))
          refine ih _ _ ⟨⟨some (.int (nI (lo s))), ?_⟩, hn2⟩
          rw [hb1]; rfl
        cases hr : rkF on lo s with
        | none =>
          rw [hr] at J
          refine (ex_al0 dX8_rock_97 (ex_getR dX8_rock_98 flX8_65 (gx0 hG) (gr0_9 hG) (ex_al0 dX8_rock_101 (ex_getR dX8_rock_102 flX8_26 (gx0 hG) (gr0_2 hG) (ex_VP1 dX8_rock_105 lkX8_240 (gx80 hG) ⟨_, _, rfl⟩ ⟨(Nat.le_of_ble_eq_true rfl), (Nat.le_of_ble_eq_true rfl)⟩ ⟨Nat.le_refl _, Nat.le_refl _⟩ (Nat.le_of_ble_eq_true rfl) (hx) (ex_is7 dX8_rock_108 (Nat.le_of_ble_eq_true rfl) rfl (ex_il4 dX8_rock_110 (ex_bipush (v := (-4)) dX8_rock_112 rfl (ex_icmp_eq (tgt := 124) dX8_rock_114 rfl (fun c114 => ?_) (fun c114 => (absurd rfl c114)))))))))))
          exact J (by rw [hst, hon2, hr]; rfl)
        | some q =>
          obtain ⟨r1, r2⟩ := rkF_lt hr
          have hq20 := hl20 q.1
          rw [hr, show wN (Option.map Prod.fst (some q)) = nI q.1 from rfl, show wN (Option.map Prod.snd (some q)) = nI q.2 from rfl] at J
          rw [show wN (Option.map Prod.fst (some q)) = nI q.1 from rfl, show wN (Option.map Prod.snd (some q)) = nI q.2 from rfl]
          have hst2 : rkF on lo (s + 1) = if lo s < q.2 then some (s, lo s) else some q := by rw [hst, hon2, hr]; rfl
          refine (ex_al0 dX8_rock_97 (ex_getR dX8_rock_98 flX8_65 (gx0 hG) (gr0_9 hG) (ex_al0 dX8_rock_101 (ex_getR dX8_rock_102 flX8_26 (gx0 hG) (gr0_2 hG) (ex_VP1 dX8_rock_105 lkX8_240 (gx80 hG) ⟨_, _, rfl⟩ ⟨(Nat.le_of_ble_eq_true rfl), (Nat.le_of_ble_eq_true rfl)⟩ ⟨Nat.le_refl _, Nat.le_refl _⟩ (Nat.le_of_ble_eq_true rfl) (hx) (ex_is7 dX8_rock_108 (Nat.le_of_ble_eq_true rfl) rfl (ex_il4 dX8_rock_110 (ex_bipush (v := (-4)) dX8_rock_112 rfl (ex_icmp_eq (tgt := 124) dX8_rock_114 rfl (fun c114 => (absurd c114 (nI_ne4 (by omega)))) (fun c114 => (ex_il7 dX8_rock_117 (ex_il5 dX8_rock_119 (ex_icmp_geN (tgt := 132) dX8_rock_121 rfl (by omega) (by omega) (fun c121 => ?_) (fun c121 => ?_))))))))))))))
          · refine (ex_inc6 dX8_rock_132 (Nat.le_of_ble_eq_true rfl) rfl (inc1 _) (ex_goto (tgt := 56) dX8_rock_135 rfl ?_))
            refine ih _ _ ⟨⟨some (.int (nI (lo s))), ?_⟩, hn2⟩
            rw [hst2, if_neg (by omega)]; rfl
          · exact J (by rw [hst2, if_pos (by omega)])
    · intro ls M1 h
      obtain ⟨⟨o7, rfl⟩, hn⟩ := h
      have hg2 := hn.R (by omega) hg
      rcases w01 c6 with rfl | rfl
      · refine (ex_il6 dX8_rock_56 (ex_bipush (v := nI 24) dX8_rock_58 rfl (ex_icmp_geN (tgt := 138) dX8_rock_60 rfl (by omega) (by omega) (fun c60 => (ex_il1 dX8_rock_138 (ex_if_neN (tgt := 147) dX8_rock_139 rfl (by omega) (fun c139 => (absurd rfl c139)) (fun c139 => (ex_il4 dX8_rock_142 (ex_goto (tgt := 149) dX8_rock_144 rfl (ex_ri dX8_rock_149 rfl rfl (⟨by rw [if_pos rfl, hrk], hg2, hn.u⟩)))))))) (fun c60 => (absurd (Nat.le_refl 24) c60)))))
      · refine (ex_il6 dX8_rock_56 (ex_bipush (v := nI 24) dX8_rock_58 rfl (ex_icmp_geN (tgt := 138) dX8_rock_60 rfl (by omega) (by omega) (fun c60 => (ex_il1 dX8_rock_138 (ex_if_neN (tgt := 147) dX8_rock_139 rfl (by omega) (fun c139 => (ex_il5 dX8_rock_147 (ex_ri dX8_rock_149 rfl rfl (⟨by rw [if_neg (by decide), hrk], hg2, hn.u⟩)))) (fun c139 => (absurd c139 (by decide)))))) (fun c60 => (absurd (Nat.le_refl 24) c60)))))
  · refine (ex_iconst (v := (-1)) dX8_rock_9 rfl (ex_ri dX8_rock_10 rfl rfl (⟨by simp [d_rock, c6], hg, fun _ _ => rfl⟩)))
theorem x_bcn (m : Nat) (hm : m < 64) (sh : Sh) (Mr : MR) (M : MM) : CtP mJ6_bitCount_0f7a4 [.int (nI m)] sh Mr M (nI (cnt m.testBit 6)) := by
  have := x_bc (nI m) 6 (by omega) (fun i h1 h2 => by rw [bt_nI m i h2]; exact Nat.testBit_lt_two_pow (Nat.lt_of_lt_of_le hm (show 2 ^ 6 ≤ 2 ^ i from Nat.pow_le_pow_right (by decide) h1))) sh Mr M
  rw [cnt_congr 6 (q := m.testBit) (fun i hi => bt_nI m i (by omega))] at this
  exact this
theorem cnt_top : ∀ n, n ≤ 6 → ∀ m, m < 64 → m < 2 ^ n - 1 → cnt m.testBit 6 < cnt (2 ^ n - 1).testBit 6 := by decide +kernel
theorem s_least {sh : Sh} {Mr : MR} {L D : Nat} (hG : GX sh Mr L D) (M : MM) (g : Sg) (hg : RX M L g) (hv : sgV g) (f : Int32) : CtI mX8_least [.ref 0, .int f] sh Mr M (PX L M (d_least g f)) := by
  have hL := GL hG
  have h5 := hv.1.2.1.1
  have h6 := hv.1.1.1
  have h64 := pow6 h6
  have hpos : 1 ≤ 2 ^ g.1.1.1 := Nat.one_le_two_pow
  refine ct_of (mi := mX8_least) (ls := [some (.ref 0), some (.int f), none, none, none, none, none]) rfl rfl (Nat.le_of_ble_eq_true rfl) rfl ?_
  refine (ex_il1 dX8_least_0 (ex_SP1 dX8_least_1 lkX8_189 ⟨(Nat.le_of_ble_eq_true rfl), (Nat.le_of_ble_eq_true rfl)⟩ ⟨Nat.le_refl _, Nat.le_refl _⟩ (Nat.le_of_ble_eq_true rfl) (x_isFog _ _ _ _) (ex_ifB_ne (tgt := 9) dX8_least_4 rfl (fun c4 => ?_) (fun c4 => ?_))))
  · obtain ⟨f, hf, rfl⟩ := isF_nat c4
    have hd : d_least g (nI f) = (wI (lsF (fun m => decide (nS g.1 g.2.1 (lit g.1 g.2.1) (bt g.2.1.2.1) f ≤ nS g.1 g.2.1 (fun j => lit g.1 g.2.1 j && m.testBit j) (bt g.2.1.2.1) f)) (2 ^ g.1.1.1)), g) := by simp [d_least, c4, cN_nI (show f < 2 ^ 31 by omega)]
    rw [hd]
    have htop : nS g.1 g.2.1 (lit g.1 g.2.1) (bt g.2.1.2.1) f ≤ nS g.1 g.2.1 (fun j => lit g.1 g.2.1 j && (2 ^ g.1.1.1 - 1).testBit j) (bt g.2.1.2.1) f := by
      refine Nat.le_of_eq ?_
      unfold nS
      congr 2
      funext s
      unfold cof who
      congr 1
      refine fst_congr (fun i hi => ?_)
      show (lit g.1 g.2.1 i && shn g.1.1 (pl g.2.1) i s) = ((lit g.1 g.2.1 i && (2 ^ g.1.1.1 - 1).testBit i) && shn g.1.1 (pl g.2.1) i s)
      rw [Nat.testBit_two_pow_sub_one]
      simp [hi]
    generalize hP : (fun (m : Nat) => decide (nS g.1 g.2.1 (lit g.1 g.2.1) (bt g.2.1.2.1) f ≤ nS g.1 g.2.1 (fun j => lit g.1 g.2.1 j && m.testBit j) (bt g.2.1.2.1) f)) = P
    have hPt : P (2 ^ g.1.1.1 - 1) = true := by rw [← hP]; exact decide_eq_true htop
    have hle : ∀ (li sm : Nat → Bool), nS g.1 g.2.1 li sm f ≤ 5 := fun li sm => Nat.le_trans (cnt_le _ _) h5
    have hm5 := hle (lit g.1 g.2.1) (bt g.2.1.2.1)
    have hct := cnt_top g.1.1.1 h6
    refine (ex_al0 dX8_least_9 (ex_VV0 dX8_least_10 lkX8_154 (gx0 hG) ⟨_, _, rfl⟩ ⟨(Nat.le_of_ble_eq_true rfl), (Nat.le_of_ble_eq_true rfl)⟩ ⟨Nat.le_refl _, Nat.le_refl _⟩ (Nat.le_of_ble_eq_true rfl) (x_now hG M g hg hv) (fun M10 h10 => ?_)))
    have hg1 := h10.R (by omega) hg
    have hev : ∀ M1, LdX M1 L g.1 → CtP mX1_everybody [.ref L] sh Mr M1 (nI (2 ^ g.1.1.1 - 1)) := fun M1 h => x_everybody (laL hG) M1 g.1 h
    generalize 2 ^ g.1.1.1 = T at h64 hpos hPt hct hev
    refine (ex_al0 dX8_least_13 (ex_getR dX8_least_14 flX8_36 (gx0 hG) (gr0_4 hG) (ex_al0 dX8_least_17 (ex_getR dX8_least_18 flX8_26 (gx0 hG) (gr0_2 hG) (ex_VP1 dX8_least_21 lkX8_219 (sa_sh (sa25 hG)) ⟨_, _, rfl⟩ ⟨(Nat.le_of_ble_eq_true rfl), (Nat.le_of_ble_eq_true rfl)⟩ ⟨Nat.le_refl _, Nat.le_refl _⟩ (Nat.le_of_ble_eq_true rfl) (x_paying (sa25 hG) (laL hG) M10 g.1 hg1.1 g.2.1 hg1.2.1) (ex_is2 dX8_least_24 (Nat.le_of_ble_eq_true rfl) rfl (ex_al0 dX8_least_25 (ex_getR dX8_least_26 flX8_65 (gx0 hG) (gr0_9 hG) (ex_al0 dX8_least_29 (ex_getR dX8_least_30 flX8_26 (gx0 hG) (gr0_2 hG) (ex_il1 dX8_least_33 (ex_VP2 dX8_least_34 lkX8_205 (gx80 hG) ⟨_, _, rfl⟩ ⟨(Nat.le_of_ble_eq_true rfl), (Nat.le_of_ble_eq_true rfl)⟩ ⟨Nat.le_refl _, Nat.le_refl _⟩ (Nat.le_of_ble_eq_true rfl) (x_sureShips hG M10 g.1 hg1.1 _ h10.C f hf) (ex_SP1 dX8_least_37 lkX8_222 ⟨(Nat.le_of_ble_eq_true rfl), (Nat.le_of_ble_eq_true rfl)⟩ ⟨Nat.le_refl _, Nat.le_refl _⟩ (Nat.le_of_ble_eq_true rfl) (x_bcs _ _ (by omega) _ _ _) (ex_top (y := nI ((nS g.1 g.2.1 (lit g.1 g.2.1) (bt g.2.1.2.1) f))) (rfl) (ex_is3 dX8_least_40 (Nat.le_of_ble_eq_true rfl) rfl (ex_al0 dX8_least_41 (ex_getR dX8_least_42 flX8_26 (gx0 hG) (gr0_2 hG) (ex_VP0 dX8_least_45 lkX8_230 (la_sh (laL hG)) ⟨_, _, rfl⟩ ⟨(Nat.le_of_ble_eq_true rfl), (Nat.le_of_ble_eq_true rfl)⟩ ⟨Nat.le_refl _, Nat.le_refl _⟩ (Nat.le_of_ble_eq_true rfl) (hev M10 hg1.1) (ex_is4 dX8_least_48 (Nat.le_of_ble_eq_true rfl) rfl (ex_iconst (v := nI 0) dX8_least_50 rfl (ex_is5 dX8_least_51 (Nat.le_of_ble_eq_true rfl) rfl ?_)))))))))))))))))))))
    refine ex_for (I := fun m ls M' => (∃ o6, ls = [some (.ref 0), some (.int (nI f)), some (.int (bset (lit g.1 g.2.1) g.1.1.1)), some (.int (nI (nS g.1 g.2.1 (lit g.1 g.2.1) (bt g.2.1.2.1) f))), some (.int (nI ((lsF P m).getD (T - 1)))), some (.int (nI m)), o6]) ∧ LnX M M' g) T ?_ ?_ 0 _ _ (Nat.zero_le _) ⟨⟨none, rfl⟩, h10.n⟩
    · intro m ls M1 hm h ih
      obtain ⟨⟨o6, rfl⟩, hn⟩ := h
      have hg2 := hn.R (by omega) hg
      have hst : lsF P (m + 1) = if bet (lsF P m) m && P m then some m else lsF P m := rfl
      have hPm : P m = decide (nS g.1 g.2.1 (lit g.1 g.2.1) (bt g.2.1.2.1) f ≤ nS g.1 g.2.1 (fun j => lit g.1 g.2.1 j && m.testBit j) (bt g.2.1.2.1) f) := by rw [← hP]
      have hcm := cnt_le m.testBit 6
      have hk5 := hle (fun j => lit g.1 g.2.1 j && m.testBit j) (bt g.2.1.2.1)
      have hq : (lsF P m).getD (T - 1) < 64 := by
        cases h : lsF P m with
        | none => simp; omega
        | some q => have := lsF_lt h; simp; omega
      have hcq := cnt_le ((lsF P m).getD (T - 1)).testBit 6
      have hfe : (cnt m.testBit 6 < cnt ((lsF P m).getD (T - 1)).testBit 6 → bet (lsF P m) m = true) ∧ (¬ cnt m.testBit 6 < cnt ((lsF P m).getD (T - 1)).testBit 6 → (lsF P (m + 1)).getD (T - 1) = (lsF P m).getD (T - 1)) := by
        rw [hst]
        cases h : lsF P m with
        | none =>
          refine ⟨fun _ => rfl, fun hno => ?_⟩
          have e : m = T - 1 := by
            by_cases e : m < T - 1
            · exact absurd (hct m (by omega) e) hno
            · omega
          subst e
          split <;> rfl
        | some q =>
          refine ⟨fun hy => decide_eq_true hy, fun hno => ?_⟩
          have : bet (some q) m = false := decide_eq_false hno
          rw [this]
          rfl
      generalize hqe : (lsF P m).getD (T - 1) = q at hq hcq hfe
      refine (ex_il5 dX8_least_53 (ex_al0 dX8_least_55 (ex_getR dX8_least_56 flX8_26 (gx0 hG) (gr0_2 hG) (ex_VP0 dX8_least_59 lkX8_230 (la_sh (laL hG)) ⟨_, _, rfl⟩ ⟨(Nat.le_of_ble_eq_true rfl), (Nat.le_of_ble_eq_true rfl)⟩ ⟨Nat.le_refl _, Nat.le_refl _⟩ (Nat.le_of_ble_eq_true rfl) (hev M1 hg2.1) (ex_icmp_gtN (tgt := 113) dX8_least_62 rfl (by omega) (by omega) (fun c62 => (absurd c62 (by omega))) (fun c62 => (ex_il5 dX8_least_65 (ex_SP1 dX8_least_67 lkX8_222 ⟨(Nat.le_of_ble_eq_true rfl), (Nat.le_of_ble_eq_true rfl)⟩ ⟨Nat.le_refl _, Nat.le_refl _⟩ (Nat.le_of_ble_eq_true rfl) (x_bcn m (by omega) _ _ _) (ex_il4 dX8_least_70 (ex_SP1 dX8_least_72 lkX8_222 ⟨(Nat.le_of_ble_eq_true rfl), (Nat.le_of_ble_eq_true rfl)⟩ ⟨Nat.le_refl _, Nat.le_refl _⟩ (Nat.le_of_ble_eq_true rfl) (x_bcn q hq _ _ _) (ex_icmp_geN (tgt := 82) dX8_least_75 rfl (by omega) (by omega) (fun c75 => ?_) (fun c75 => ?_))))))))))))
      · refine (ex_iconst (v := nI 0) dX8_least_82 rfl (ex_is6 dX8_least_83 (Nat.le_of_ble_eq_true rfl) rfl (ex_il6 dX8_least_85 (ex_if_eqN (tgt := 107) dX8_least_87 rfl (by omega) (fun c87 => (ex_inc5 dX8_least_107 (Nat.le_of_ble_eq_true rfl) rfl (inc1 _) (ex_goto (tgt := 53) dX8_least_110 rfl ?_))) (fun c87 => (absurd rfl c87))))))
        refine ih _ _ ⟨⟨some (.int (nI 0)), ?_⟩, hn⟩
        rw [hfe.2 (by omega)]
      · refine (ex_iconst (v := nI 1) dX8_least_78 rfl (ex_goto (tgt := 83) dX8_least_79 rfl (ex_is6 dX8_least_83 (Nat.le_of_ble_eq_true rfl) rfl (ex_il6 dX8_least_85 (ex_if_eqN (tgt := 107) dX8_least_87 rfl (by omega) (fun c87 => (absurd c87 (by omega))) (fun c87 => (ex_al0 dX8_least_90 (ex_il2 dX8_least_91 (ex_il5 dX8_least_92 (ex_iand dX8_least_94 (ex_il1 dX8_least_95 (ex_VI2 dX8_least_96 lkX8_227 (gx0 hG) ⟨_, _, rfl⟩ ⟨(Nat.le_of_ble_eq_true rfl), (Nat.le_of_ble_eq_true rfl)⟩ ⟨Nat.le_refl _, Nat.le_refl _⟩ (Nat.le_of_ble_eq_true rfl) (x_byLight hG M M1 g hg hv hn _ (fun j => lit g.1 g.2.1 j && m.testBit j) (fun j hj => by rw [b_and, bt_bset _ _ (by omega) j (by omega), bt_nI m j (by omega)]; simp [hj]) f hf) (fun v96 M96 h96 => ?_)))))))))))))
        obtain ⟨rfl, hn2⟩ := h96
        have hb := hfe.1 (by omega)
        refine (ex_il3 dX8_least_99 (ex_icmp_ltN (tgt := 107) dX8_least_100 rfl (by omega) (by omega) (fun c100 => ?_) (fun c100 => ?_)))
        · refine (ex_inc5 dX8_least_107 (Nat.le_of_ble_eq_true rfl) rfl (inc1 _) (ex_goto (tgt := 53) dX8_least_110 rfl ?_))
          refine ih _ _ ⟨⟨some (.int (nI 1)), ?_⟩, hn2⟩
          rw [hst, hb, hPm, decide_eq_false (by omega)]
          rw [show (if (true && false) = true then some m else lsF P m) = lsF P m from rfl, hqe]
        · refine (ex_il5 dX8_least_103 (ex_is4 dX8_least_105 (Nat.le_of_ble_eq_true rfl) rfl (ex_inc5 dX8_least_107 (Nat.le_of_ble_eq_true rfl) rfl (inc1 _) (ex_goto (tgt := 53) dX8_least_110 rfl ?_))))
          refine ih _ _ ⟨⟨some (.int (nI 1)), ?_⟩, hn2⟩
          rw [hst, hb, hPm, decide_eq_true (by omega)]
          rfl
    · intro ls M1 h
      obtain ⟨⟨o6, rfl⟩, hn⟩ := h
      have hg2 := hn.R (by omega) hg
      have hfin : nI ((lsF P T).getD (T - 1)) = wI (lsF P T) := by
        obtain ⟨U, rfl⟩ : ∃ U, T = U + 1 := ⟨T - 1, by omega⟩
        have hst : lsF P (U + 1) = if bet (lsF P U) U && P U then some U else lsF P U := rfl
        rw [Nat.add_sub_cancel] at hPt
        cases h : lsF P (U + 1) with
        | some q => rfl
        | none =>
          exfalso
          rw [hst] at h
          cases h2 : lsF P U with
          | none => rw [h2, hPt] at h; simp [bet] at h
          | some q => rw [h2] at h; split at h <;> cases h
      refine (ex_il5 dX8_least_53 (ex_al0 dX8_least_55 (ex_getR dX8_least_56 flX8_26 (gx0 hG) (gr0_2 hG) (ex_VP0 dX8_least_59 lkX8_230 (la_sh (laL hG)) ⟨_, _, rfl⟩ ⟨(Nat.le_of_ble_eq_true rfl), (Nat.le_of_ble_eq_true rfl)⟩ ⟨Nat.le_refl _, Nat.le_refl _⟩ (Nat.le_of_ble_eq_true rfl) (hev M1 hg2.1) (ex_icmp_gtN (tgt := 113) dX8_least_62 rfl (by omega) (by omega) (fun c62 => (ex_il4 dX8_least_113 (ex_ri dX8_least_115 rfl rfl (⟨hfin, hg2, hn.u⟩)))) (fun c62 => (absurd (by omega) c62)))))))
  · refine (ex_iconst (v := (-1)) dX8_least_7 rfl (ex_ri dX8_least_8 rfl rfl (⟨by simp [d_least, c4], hg, fun _ _ => rfl⟩)))
