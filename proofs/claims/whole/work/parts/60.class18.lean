/-! the class: the search runs -/
theorem odF_s {o : To} {x : St} {c : Nat} (h : isOrd o.1.1 c = true) : odF o x (c + 1) = match odF o x c with
    | none => some (vO o x (dig o.1.1 c), dig o.1.1 c)
    | some q => if q.1 < vO o x (dig o.1.1 c) then some (vO o x (dig o.1.1 c), dig o.1.1 c) else some q := by
  simp only [odF, h, if_true]
  cases odF o x c <;> rfl
theorem odF_stop {o : To} {x : St} {a : Nat} {q : Nat × (Nat → Nat)} (h : odF o x a = some q) (hq : o.2.1.1 ≤ q.1) : ∀ {b : Nat}, a ≤ b → odF o x b = some q
  | 0, hb => by rw [show a = 0 by omega] at h; exact h
  | b + 1, hb => by
    by_cases e : a = b + 1
    · rw [← e]; exact h
    · have ih := odF_stop h hq (b := b) (by omega)
      show (if isOrd o.1.1 b then _ else _) = _
      split
      · rw [ih]
        have := vO_le o x (dig o.1.1 b)
        show (if q.1 < _ then _ else _) = _
        rw [if_neg (by omega)]
      · exact ih
/-- what the search holds, codes below c gone through -/
def SrX (M M' : MM) (o : To) (x : St) (r : Option (Nat × (Nat → Nat))) : Prop := (∀ c, c < 80 ∨ 94 ≤ c → M' c = M c) ∧ M' 84 3 = mny r ∧ (∀ q, r = some q → ∀ j, j < o.1.1 → M' 93 j = nI (q.2 j)) ∧ ∀ i, i < o.1.1 → ∀ j, j < o.1.1 → GdX M' o.1.1 o x i j
theorem mny_le {v : Nat} {r : Option (Nat × (Nat → Nat))} (hv : v < 2 ^ 31) (hr : ∀ q, r = some q → q.1 < 2 ^ 31) : nI v ≤ mny r ↔ ∃ q, r = some q ∧ v ≤ q.1 := by
  cases r with
  | none =>
    simp only [mny, i_le_iff]
    rw [nI_toInt hv, show ((-1 : Int32)).toInt = -1 by decide]
    constructor
    · intro h; omega
    · rintro ⟨q, hq, -⟩; cases hq
  | some q =>
    simp only [mny, i_le_iff]
    rw [nI_toInt hv, nI_toInt (hr q rfl)]
    constructor
    · intro h; exact ⟨q, rfl, by omega⟩
    · rintro ⟨p, hp, h⟩; cases hp; omega
theorem x_run {sh : Sh} {Mr : MR} {L D : Nat} (hG : GX sh Mr L D) (M : MM) (o : To) (ho : LdX M L o) (h1 : 1 ≤ o.1.1) (x : St) (hx : stX M 25 o.1.1 x) (hv : plV o.1.1 x) : CtV mX6_run [.ref 84, .ref L, .ref 25, .ref 80] sh Mr M (fun M' => SrX M M' o x (odF o x (o.1.1 ^ o.1.1))) := by
  have h6 := ho.1.2.1
  have h5 := ho.2.1.2.1
  have hL := GL hG
  have hr31 : ∀ c q, odF o x c = some q → q.1 ≤ 5 := fun c q h => by rw [(odF_v h).1]; exact Nat.le_trans (vO_le o x q.2) h5
  obtain ⟨hch, hno⟩ := ch_n o.1.1 h1 h6
  -- the loop's end
  have JE : ∀ (t : Nat) (M1 : MM) (l7 : Option AV), SrX M M1 o x (odF o x (o.1.1 ^ o.1.1)) → t ≤ 720 → EV mX6_run sh Mr (fun M' => SrX M M' o x (odF o x (o.1.1 ^ o.1.1))) 19 [some (.ref 84), some (.ref L), some (.ref 25), some (.ref 80), some (.int (bset (lit o x) o.1.1)), some (.int (nI 0)), some (.int (nI t)), l7] [] M1 := by
    intro t M1 l7 hs ht
    refine (ex_il6 dX6_run_19 (ex_sipush (v := nI 720) dX6_run_21 rfl (ex_icmp_geN (tgt := 158) dX6_run_24 rfl (by omega) (by omega) (fun c24 => ?_) (fun c24 => ?_))))
    · refine (ex_rv dX6_run_158 rfl (hs))
    · refine (ex_il5 dX6_run_27 (ex_if_eqN (tgt := 158) dX6_run_29 rfl (by omega) (fun c29 => (ex_rv dX6_run_158 rfl (hs))) (fun c29 => (absurd rfl c29))))
  have JK : ∀ (k c t : Nat) (M1 : MM) (l7 : Option AV), chW o.1.1 k c = true → t + k = 720 → SrX M M1 o x (odF o x c) → WyX M1 o.1.1 (dig o.1.1 c) → EV mX6_run sh Mr (fun M' => SrX M M' o x (odF o x (o.1.1 ^ o.1.1))) 19 [some (.ref 84), some (.ref L), some (.ref 25), some (.ref 80), some (.int (bset (lit o x) o.1.1)), some (.int (nI 1)), some (.int (nI t)), l7] [] M1 := by
    intro k
    induction k with
    | zero => intro c t M1 l7 hc; cases hc
    | succ k ih =>
      intro c t M1 l7 hc ht hs hw
      obtain ⟨j, hj, co, cl, cn, cs⟩ := ch_s (by omega) hc
      have hj : k = j := by omega
      subst hj
      obtain ⟨s1, s2, s3, s4⟩ := hs
      refine (ex_il6 dX6_run_19 (ex_sipush (v := nI 720) dX6_run_21 rfl (ex_icmp_geN (tgt := 158) dX6_run_24 rfl (by omega) (by omega) (fun c24 => (absurd c24 (by omega))) (fun c24 => (ex_il5 dX6_run_27 (ex_if_eqN (tgt := 158) dX6_run_29 rfl (by omega) (fun c29 => (absurd c29 (by omega))) (fun c29 => (ex_iconst (v := nI 0) dX6_run_32 rfl (ex_is7 dX6_run_33 (Nat.le_of_ble_eq_true rfl) rfl ?_)))))))))
      refine ex_for (I := fun i ls M' => ls = [some (.ref 84), some (.ref L), some (.ref 25), some (.ref 80), some (.int (bset (lit o x) o.1.1)), some (.int (nI 1)), some (.int (nI t)), some (.int (nI i))] ∧ (∀ c, c ≠ 81 → M' c = M1 c) ∧ ShX M' i (shn o.1 (plW x (dig o.1.1 c)))) o.1.1 ?_ ?_ 0 _ _ (Nat.zero_le _) ⟨rfl, fun _ _ => rfl, fun i hi => by omega⟩
      · intro i ls M2 hi h ihi
        obtain ⟨rfl, g1, g2⟩ := h
        have ho2 : LdX M2 L o := ho.of (fun c e1 e2 => (g1 c (by omega)).trans (s1 c (by omega)))
        obtain ⟨d1, d2⟩ := grd hG i (by omega)
        obtain ⟨w1, w2⟩ := hw i hi
        rw [← g1 92 (by omega)] at w1
        have hgd := s4 i hi _ w2
        refine (ex_il7 dX6_run_35 (ex_al1 dX6_run_37 (ex_getI dX6_run_38 flX6_33 (la_sh (laL hG)) (ex_top (ho2.1.1) (ex_icmp_geN (tgt := 72) dX6_run_41 rfl (by omega) (by omega) (fun c41 => (absurd c41 (by omega))) (fun c41 => (ex_al3 dX6_run_44 (ex_getR dX6_run_45 flX6_39 (gx80 hG) (gr80_0 hG) (ex_il7 dX6_run_48 (ex_al0 dX6_run_50 (ex_getR dX6_run_51 flX6_11 (gx84 hG) (gr84_0 hG) (ex_il7 dX6_run_54 (ex_aald2N dX6_run_56 (gx85 hG) (by omega) (by omega) (d1) (ex_al0 dX6_run_57 (ex_getR dX6_run_58 flX6_16 (gx84 hG) (gr84_1 hG) (ex_il7 dX6_run_61 (ex_ildN dX6_run_63 (gx92 hG) (by omega) (by omega) (ex_top (w1) (ex_ildN dX6_run_64 (d2) (by omega) (by omega) (ex_istN dX6_run_65 (gx81 hG) (by omega) (by omega) (ex_inc7 dX6_run_66 (Nat.le_of_ble_eq_true rfl) rfl (inc1 _) (ex_goto (tgt := 35) dX6_run_69 rfl ?_))))))))))))))))))))))
        refine ihi _ _ ⟨rfl, fun c e => by rw [wr_oc e]; exact g1 c e, fun k hk s hs => ?_⟩
        by_cases e : k = i
        · subst e; rw [wr_s, g1 (86 + k) (by omega)]; exact hgd s hs
        · rw [wr_oi e]; exact g2 k (by omega) s hs
      · intro ls M2 h
        obtain ⟨rfl, g1, g2⟩ := h
        have ho2 : LdX M2 L o := ho.of (fun c e1 e2 => (g1 c (by omega)).trans (s1 c (by omega)))
        have hx2 : stX M2 25 o.1.1 x := hx.of (fun c e1 e2 => (g1 c (by omega)).trans (s1 c (by omega)))
        refine (ex_il7 dX6_run_35 (ex_al1 dX6_run_37 (ex_getI dX6_run_38 flX6_33 (la_sh (laL hG)) (ex_top (ho2.1.1) (ex_icmp_geN (tgt := 72) dX6_run_41 rfl (by omega) (by omega) (fun c41 => (ex_al3 dX6_run_72 (ex_al1 dX6_run_73 (ex_il4 dX6_run_74 (ex_al2 dX6_run_76 (ex_getI dX6_run_77 flX6_44 (sa_sh (sa25 hG)) (ex_top (hx2.2.1) (ex_VV3 dX6_run_80 lkX6_47 (gx80 hG) ⟨_, _, rfl⟩ ⟨(Nat.le_of_ble_eq_true rfl), (Nat.le_of_ble_eq_true rfl)⟩ ⟨Nat.le_refl _, Nat.le_refl _⟩ (Nat.le_of_ble_eq_true rfl) (x_show hG M2 o ho2 _ g2 (lit o x) _ _ (fun i hi => by rw [bt_bset _ _ (by omega) i (by omega)]; simp [hi])) (fun M80 h80 => ?_))))))))) (fun c41 => (absurd (Nat.le_refl _) c41)))))))
        obtain ⟨q1, q2⟩ := h80
        have hM : ∀ c, c ≠ 80 → c ≠ 81 → c ≠ 82 → c ≠ 83 → M80 c = M1 c := fun c e1 e2 e3 e4 => (q1 c e1 e3 e4).trans (g1 c e2)
        have ho3 : LdX M80 L o := ho.of (fun c e1 e2 => (hM c (by omega) (by omega) (by omega) (by omega)).trans (s1 c (by omega)))
        have hco : CoX M80 (cof o.1 (plW x (dig o.1.1 c)) (lit o x) (bt x.2.1)) := q2.2.2
        have hv5 := Nat.le_trans (vO_le o x (dig o.1.1 c)) h5
        have hms : M80 84 3 = mny (odF o x c) := by rw [hM 84 (by omega) (by omega) (by omega) (by omega)]; exact s2
        have hle := mny_le (v := vO o x (dig o.1.1 c)) (r := odF o x c) (by omega) (fun q hq => by have := hr31 c q hq; omega)
        have hst := odF_s (x := x) co
        -- behind the trial
        have JT : ∀ M3 : MM, SrX M M3 o x (odF o x (c + 1)) → WyX M3 o.1.1 (dig o.1.1 c) → EV mX6_run sh Mr (fun M' => SrX M M' o x (odF o x (o.1.1 ^ o.1.1))) 123 [some (.ref 84), some (.ref L), some (.ref 25), some (.ref 80), some (.int (bset (lit o x) o.1.1)), some (.int (nI 1)), some (.int (nI t)), some (.int (nI (vO o x (dig o.1.1 c))))] [] M3 := by
          intro M3 hs3 hw3
          obtain ⟨t1, t2, t3, t4⟩ := hs3
          have ho4 : LdX M3 L o := ho.of (fun c e1 e2 => t1 c (by omega))
          obtain ⟨q, hq⟩ : ∃ q, odF o x (c + 1) = some q := odF_some (c := c) (by omega) co
          have hq5 := hr31 _ q hq
          rw [hq] at t2
          have JF : ∀ M4 : MM, SrX M M4 o x (odF o x (o.1.1 ^ o.1.1)) → EV mX6_run sh Mr (fun M' => SrX M M' o x (odF o x (o.1.1 ^ o.1.1))) 149 [some (.ref 84), some (.ref L), some (.ref 25), some (.ref 80), some (.int (bset (lit o x) o.1.1)), some (.int (nI 1)), some (.int (nI t)), some (.int (nI (vO o x (dig o.1.1 c))))] [] M4 := by
            intro M4 hs4
            refine (ex_iconst (v := nI 0) dX6_run_149 rfl (ex_is5 dX6_run_150 (Nat.le_of_ble_eq_true rfl) rfl (ex_inc6 dX6_run_152 (Nat.le_of_ble_eq_true rfl) rfl (inc1 _) (ex_goto (tgt := 19) dX6_run_155 rfl ?_))))
            exact JE (t + 1) M4 _ hs4 (by omega)
          refine (ex_al0 dX6_run_123 (ex_getI dX6_run_124 flX6_60 (gx84 hG) (ex_top (y := nI ((q.1))) (t2) (ex_al1 dX6_run_127 (ex_getI dX6_run_128 flX6_69 (la_sh (laL hG)) (ex_top (ho4.2.1.1) (ex_icmp_geN (tgt := 149) dX6_run_131 rfl (by omega) (by omega) (fun c131 => ?_) (fun c131 => ?_))))))))
          · refine JF M3 ?_
            rw [odF_stop hq c131 (show c + 1 ≤ o.1.1 ^ o.1.1 by omega), ← hq]
            exact ⟨t1, by rw [hq]; exact t2, t3, t4⟩
          · refine (ex_al0 dX6_run_134 (ex_al1 dX6_run_135 (ex_getI dX6_run_136 flX6_33 (la_sh (laL hG)) (ex_top (ho4.1.1) (ex_VI1 dX6_run_139 lkX6_72 (gx84 hG) ⟨_, _, rfl⟩ ⟨(Nat.le_of_ble_eq_true rfl), (Nat.le_of_ble_eq_true rfl)⟩ ⟨Nat.le_refl _, Nat.le_refl _⟩ (Nat.le_of_ble_eq_true rfl) (x_nextWay hG M3 o.1.1 h1 h6 _ hw3) (fun v139 M139 h139 => ?_))))))
            obtain ⟨rfl, u1, u2⟩ := h139
            have hs5 : SrX M M139 o x (odF o x (c + 1)) := ⟨fun c hc => (u1 c (by omega)).trans (t1 c hc), by rw [u1 84 (by omega), hq]; exact t2, by rw [u1 93 (by omega)]; exact t3, fun i hi j hj s hs => by rw [u1 (86 + i) (by omega)]; exact t4 i hi j hj s hs⟩
            refine (ex_ifB_eq (tgt := 149) dX6_run_142 rfl (fun c142 => ?_) (fun c142 => ?_))
            · refine JF M139 ?_
              have hn : nxW o.1.1 (dig o.1.1 c) = none := by
                cases h : nxW o.1.1 (dig o.1.1 c)
                · rfl
                · rw [h] at c142; cases c142
              rw [odF_skip (a := c + 1) (by omega) (fun d e1 e2 => cn hn d (by omega) e2)]
              exact hs5
            · obtain ⟨W, hW⟩ : ∃ W, nxW o.1.1 (dig o.1.1 c) = some W := by
                cases h : nxW o.1.1 (dig o.1.1 c) with
                | none => rw [h] at c142; cases c142
                | some W => exact ⟨W, rfl⟩
              obtain ⟨d, e1, e2, e3, e4⟩ := cs W hW
              have hwd : WyX M139 o.1.1 (dig o.1.1 d) := fun i hi => by rw [← e3 i hi]; exact u2 W hW i hi
              refine (ex_iconst (v := nI 1) dX6_run_145 rfl (ex_goto (tgt := 150) dX6_run_146 rfl (ex_is5 dX6_run_150 (Nat.le_of_ble_eq_true rfl) rfl (ex_inc6 dX6_run_152 (Nat.le_of_ble_eq_true rfl) rfl (inc1 _) (ex_goto (tgt := 19) dX6_run_155 rfl ?_)))))
              refine ih d (t + 1) M139 _ e4 (by omega) ?_ hwd
              rw [odF_skip (a := c + 1) (by omega) (fun z z1 z2 => e2 z (by omega) z2)]
              exact hs5
        have hwy : ∀ M3 : MM, M3 92 = M80 92 → WyX M3 o.1.1 (dig o.1.1 c) := fun M3 e i hi => by rw [e, hM 92 (by omega) (by omega) (by omega) (by omega)]; exact hw i hi
        have hfr : ∀ z, z < 80 ∨ 94 ≤ z → M80 z = M z := fun z hz => (hM z (by omega) (by omega) (by omega) (by omega)).trans (s1 z hz)
        have hgd : ∀ i, i < o.1.1 → ∀ j, j < o.1.1 → GdX M80 o.1.1 o x i j := fun i hi j hj s hs => by rw [hM (86 + i) (by omega) (by omega) (by omega) (by omega)]; exact s4 i hi j hj s hs
        refine (ex_al3 dX6_run_83 (ex_al1 dX6_run_84 (ex_VP1 dX6_run_85 lkX6_51 (gx80 hG) ⟨_, _, rfl⟩ ⟨(Nat.le_of_ble_eq_true rfl), (Nat.le_of_ble_eq_true rfl)⟩ ⟨Nat.le_refl _, Nat.le_refl _⟩ (Nat.le_of_ble_eq_true rfl) (x_sureAny hG M80 o ho3 _ hco) (ex_SP1 dX6_run_88 lkX6_54 ⟨(Nat.le_of_ble_eq_true rfl), (Nat.le_of_ble_eq_true rfl)⟩ ⟨Nat.le_refl _, Nat.le_refl _⟩ (Nat.le_of_ble_eq_true rfl) (x_bcs _ _ (by omega) _ _ _) (ex_top (y := nI ((vO o x (dig o.1.1 c)))) (rfl) (ex_is7 dX6_run_91 (Nat.le_of_ble_eq_true rfl) rfl (ex_il7 dX6_run_93 (ex_al0 dX6_run_95 (ex_getI dX6_run_96 flX6_60 (gx84 hG) (ex_top (hms) (ex_icmp_le (tgt := 123) dX6_run_99 rfl (fun c99 => ?_) (fun c99 => ?_))))))))))))
        · obtain ⟨q, hq, hvq⟩ := hle.mp c99
          refine JT M80 ?_ (hwy _ rfl)
          have e : odF o x (c + 1) = odF o x c := by rw [hst, hq]; show (if _ then _ else _) = _; rw [if_neg (by omega)]
          rw [e]
          exact ⟨hfr, hms, fun q hq j hj => by rw [hM 93 (by omega) (by omega) (by omega) (by omega)]; exact s3 q hq j hj, hgd⟩
        · have e : odF o x (c + 1) = some (vO o x (dig o.1.1 c), dig o.1.1 c) := by
            rw [hst]
            cases hr : odF o x c with
            | none => rfl
            | some q =>
              show (if _ then _ else _) = _
              rw [if_pos]
              have : ¬ vO o x (dig o.1.1 c) ≤ q.1 := fun hh => c99 (hle.mpr ⟨q, hr, hh⟩)
              omega
          refine (ex_al0 dX6_run_102 (ex_il7 dX6_run_103 (ex_putI dX6_run_105 (fpX6_60 _) (gx84 hG) (ex_al0 dX6_run_108 (ex_getR dX6_run_109 flX6_16 (gx84 hG) (gr84_1 hG) (ex_iconst (v := nI 0) dX6_run_112 rfl (ex_al0 dX6_run_113 (ex_getR dX6_run_114 flX6_20 (gx84 hG) (gr84_2 hG) (ex_iconst (v := nI 0) dX6_run_117 rfl (ex_bipush (v := nI 6) dX6_run_118 rfl ?_))))))))))
          refine ex_copy (sp := 0) (dp := 0) (n := 6) dX6_run_120 acX6_63 ac_nat ac_sta ac_ini (gx92 hG) (gx93 hG) rfl rfl rfl (by omega) (by omega) ⟨by omega, by omega⟩ ⟨Nat.le_of_ble_eq_true rfl, Nat.le_of_ble_eq_true rfl⟩ (Nat.le_of_ble_eq_true rfl) ac_big ?_
          have m1 : ∀ z y, (z ≠ 93) → (if z = 93 ∧ 0 ≤ y ∧ y < 0 + 6 then wr M80 84 3 (nI (vO o x (dig o.1.1 c))) 92 (0 + (y - 0)) else wr M80 84 3 (nI (vO o x (dig o.1.1 c))) z y) = wr M80 84 3 (nI (vO o x (dig o.1.1 c))) z y := fun z y hz => if_neg (fun h => hz h.1)
          have m2 : ∀ y, y < 6 → (if 93 = 93 ∧ 0 ≤ y ∧ y < 0 + 6 then wr M80 84 3 (nI (vO o x (dig o.1.1 c))) 92 (0 + (y - 0)) else wr M80 84 3 (nI (vO o x (dig o.1.1 c))) 93 y) = M80 92 y := fun y hy => by rw [if_pos ⟨rfl, Nat.zero_le _, by omega⟩, wr_oc (by omega), Nat.sub_zero, Nat.zero_add]
          refine JT _ ?_ (hwy _ ?_)
          · rw [e]
            refine ⟨fun z hz => ?_, ?_, fun q hq j hj => ?_, fun i hi j hj s hs => ?_⟩
            · funext y
              refine (m1 z y (by omega)).trans ?_
              rw [wr_oc (by omega), hfr z hz]
            · refine (m1 84 3 (by omega)).trans ?_
              rw [wr_s]; rfl
            · cases hq
              refine (m2 j (by omega)).trans ?_
              rw [hM 92 (by omega) (by omega) (by omega) (by omega)]
              exact (hw j hj).1
            · refine (congrArg (fun v => bt v s) ((m1 (86 + i) j (by omega)).trans (by rw [wr_oc (by omega)]))).trans ?_
              exact hgd i hi j hj s hs
          · funext y
            refine (m1 92 y (by omega)).trans ?_
            rw [wr_oc (by omega)]
  refine ct_of (mi := mX6_run) (ls := [some (.ref 84), some (.ref L), some (.ref 25), some (.ref 80), none, none, none, none]) rfl rfl (Nat.le_of_ble_eq_true rfl) rfl ?_
  refine (ex_al0 dX6_run_0 (ex_al1 dX6_run_1 (ex_al2 dX6_run_2 (ex_VV2 dX6_run_3 lkX6_23 (gx84 hG) ⟨_, _, rfl⟩ ⟨(Nat.le_of_ble_eq_true rfl), (Nat.le_of_ble_eq_true rfl)⟩ ⟨Nat.le_refl _, Nat.le_refl _⟩ (Nat.le_of_ble_eq_true rfl) (x_prepare hG M o ho x hx hv) (fun M3 h3 => ?_)))))
  obtain ⟨f1, f2, f3, f4⟩ := h3
  have ho1 : LdX M3 L o := ho.of (fun c e1 e2 => f1 c (by omega))
  have hx1 : stX M3 25 o.1.1 x := hx.of (fun c e1 e2 => f1 c (by omega))
  refine (ex_al2 dX6_run_6 (ex_al1 dX6_run_7 (ex_VP1 dX6_run_8 lkX6_27 (sa_sh (sa25 hG)) ⟨_, _, rfl⟩ ⟨(Nat.le_of_ble_eq_true rfl), (Nat.le_of_ble_eq_true rfl)⟩ ⟨Nat.le_refl _, Nat.le_refl _⟩ (Nat.le_of_ble_eq_true rfl) (x_paying (sa25 hG) (laL hG) M3 o ho1 x hx1) (ex_is4 dX6_run_11 (Nat.le_of_ble_eq_true rfl) rfl (ex_iconst (v := nI 1) dX6_run_13 rfl (ex_is5 dX6_run_14 (Nat.le_of_ble_eq_true rfl) rfl (ex_iconst (v := nI 0) dX6_run_16 rfl (ex_is6 dX6_run_17 (Nat.le_of_ble_eq_true rfl) rfl ?_))))))))
  have hnone : odF o x (c0W o.1.1) = none := by
    rw [odF_skip (a := 0) (Nat.zero_le _) (fun c e1 e2 => noO_iff (by omega) hno c (by omega) (by omega))]
    rfl
  refine JK 720 (c0W o.1.1) 0 M3 none hch rfl ?_ ?_
  · rw [hnone]
    exact ⟨fun c hc => f1 c (by omega), f2, fun q hq => (by cases hq), f4⟩
  · intro i hi
    have hd : ∀ n, n ≤ 6 → ∀ i, i < 6 → i < n → dig n (c0W n) i = i := by decide +kernel
    rw [hd _ h6 i (by omega) hi]
    exact ⟨f3 i hi, hi⟩
theorem s_order {sh : Sh} {Mr : MR} {L D : Nat} (hG : GX sh Mr L D) (M : MM) (g : Sg) (hg : RX M L g) (hv : sgV g) (i : Int32) : CtI mX8_order [.ref 0, .int i] sh Mr M (PX L M (d_order g i)) := by
  have hL := GL hG
  have h6 := hv.1.1.1
  have h1 := hv.1.1.2.1
  obtain ⟨c, c1, c2⟩ := isOrd_id g.1.1.1 h1 h6
  obtain ⟨q, hq⟩ := odF_some (x := g.2.1) c1 c2
  have hm1 := inB_m1n (i := i) (n := g.1.1.1) (by omega)
  have hrun : CtV mX6_run [.ref 84, .ref L, .ref 25, .ref 80] sh Mr M (fun M' => SrX M M' g.1 g.2.1 (some q)) := by
    have := x_run hG M g.1 hg.1 h1 g.2.1 hg.2.1 (plV_of hv.2.1)
    rw [hq] at this
    exact this
  refine ct_of (mi := mX8_order) (ls := [some (.ref 0), some (.int i)]) rfl rfl (Nat.le_of_ble_eq_true rfl) rfl ?_
  refine (ex_il1 dX8_order_0 (ex_iconst (v := (-1)) dX8_order_1 rfl (ex_icmp_eq (tgt := 15) dX8_order_2 rfl (fun c2 => ?_) (fun c2 => ?_))))
  · subst c2
    refine (ex_al0 dX8_order_15 (ex_getR dX8_order_16 flX8_72 (gx0 hG) (gr0_10 hG) (ex_al0 dX8_order_19 (ex_getR dX8_order_20 flX8_26 (gx0 hG) (gr0_2 hG) (ex_al0 dX8_order_23 (ex_getR dX8_order_24 flX8_36 (gx0 hG) (gr0_4 hG) (ex_al0 dX8_order_27 (ex_getR dX8_order_28 flX8_65 (gx0 hG) (gr0_9 hG) (ex_VV3 dX8_order_31 lkX8_209 (gx84 hG) ⟨_, _, rfl⟩ ⟨(Nat.le_of_ble_eq_true rfl), (Nat.le_of_ble_eq_true rfl)⟩ ⟨Nat.le_refl _, Nat.le_refl _⟩ (Nat.le_of_ble_eq_true rfl) (hrun) (fun M31 h31 => ?_))))))))))
    obtain ⟨f1, f2, f3, -⟩ := h31
    refine (ex_il1 dX8_order_34 (ex_iconst (v := (-1)) dX8_order_35 rfl (ex_icmp_ne (tgt := 49) dX8_order_36 rfl (fun c36 => (absurd rfl c36)) (fun c36 => (ex_al0 dX8_order_39 (ex_getR dX8_order_40 flX8_72 (gx0 hG) (gr0_10 hG) (ex_getI dX8_order_43 flX8_213 (gx84 hG) (ex_top (f2) (ex_goto (tgt := 58) dX8_order_46 rfl (ex_ri dX8_order_58 rfl rfl (⟨by simp only [d_order, hm1.mpr (Or.inl rfl), if_true, hq, odI]; rfl, hg.of (fun c hc => f1 c (by omega)), fun c hc => f1 c (by omega)⟩)))))))))))
  · refine (ex_al0 dX8_order_5 (ex_il1 dX8_order_6 (ex_VP1 dX8_order_7 lkX8_114 (gx0 hG) ⟨_, _, rfl⟩ ⟨(Nat.le_of_ble_eq_true rfl), (Nat.le_of_ble_eq_true rfl)⟩ ⟨Nat.le_refl _, Nat.le_refl _⟩ (Nat.le_of_ble_eq_true rfl) (x_isT hG M g hg i) (ex_ifB_ne (tgt := 15) dX8_order_10 rfl (fun c10 => ?_) (fun c10 => ?_)))))
    · obtain ⟨k, hk, rfl⟩ := isT_nat hv c10
      refine (ex_al0 dX8_order_15 (ex_getR dX8_order_16 flX8_72 (gx0 hG) (gr0_10 hG) (ex_al0 dX8_order_19 (ex_getR dX8_order_20 flX8_26 (gx0 hG) (gr0_2 hG) (ex_al0 dX8_order_23 (ex_getR dX8_order_24 flX8_36 (gx0 hG) (gr0_4 hG) (ex_al0 dX8_order_27 (ex_getR dX8_order_28 flX8_65 (gx0 hG) (gr0_9 hG) (ex_VV3 dX8_order_31 lkX8_209 (gx84 hG) ⟨_, _, rfl⟩ ⟨(Nat.le_of_ble_eq_true rfl), (Nat.le_of_ble_eq_true rfl)⟩ ⟨Nat.le_refl _, Nat.le_refl _⟩ (Nat.le_of_ble_eq_true rfl) (hrun) (fun M31 h31 => ?_))))))))))
      obtain ⟨f1, f2, f3, -⟩ := h31
      refine (ex_il1 dX8_order_34 (ex_iconst (v := (-1)) dX8_order_35 rfl (ex_icmp_ne (tgt := 49) dX8_order_36 rfl (fun c36 => (ex_al0 dX8_order_49 (ex_getR dX8_order_50 flX8_72 (gx0 hG) (gr0_10 hG) (ex_getR dX8_order_53 flX8_216 (gx84 hG) (gr84_2 hG) (ex_il1 dX8_order_56 (ex_ildN dX8_order_57 (gx93 hG) (by omega) (by omega) (ex_top (f3 q rfl k hk) (ex_ri dX8_order_58 rfl rfl (⟨by simp only [d_order, hm1.mpr (Or.inr ⟨k, hk, rfl⟩), if_true, hq, odI, if_neg c2, cN_nI (show k < 2 ^ 31 by omega)], hg.of (fun c hc => f1 c (by omega)), fun c hc => f1 c (by omega)⟩))))))))) (fun c36 => (absurd c36 c2)))))
    · have hb : inB i (-1) (nI g.1.1.1 - nI 1) = false := by
        cases h : inB i (-1) (nI g.1.1.1 - nI 1)
        · rfl
        · rcases hm1.mp h with e | ⟨j, hj, e⟩
          · exact absurd e c2
          · have : isT g i = true := (inB_lt (by omega)).mpr ⟨j, hj, e⟩
            rw [this] at c10
            cases c10
      refine (ex_iconst (v := (-1)) dX8_order_13 rfl (ex_ri dX8_order_14 rfl rfl (⟨by simp [d_order, hb], hg, fun _ _ => rfl⟩)))
