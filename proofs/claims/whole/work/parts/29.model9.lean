/-! the reference: what would be -/
theorem ex_topL {mi : MI} {R : Room} {Z : GE → Nat × Nat → List Frame → Array Value → State → State → Prop} {X : XT} {kc ks pc : Nat} {ls : List (Option AV)} {st : List AV} {sh : Sh} {Mr : MR} {M : MM} {x y : Int64} (h : x = y) (k : Ex mi R Z X kc ks pc ls (.long y :: st) sh Mr M) : Ex mi R Z X kc ks pc ls (.long x :: st) sh Mr M := h ▸ k
theorem cnt_bset {p : Nat → Bool} {n m : Nat} (hn : n ≤ m) (hm : m ≤ 32) : cnt (bt (bset p n)) m = cnt p n := by
  rw [cnt_more (a := n) m hn (fun i h1 h2 => by rw [bt_bset p n (by omega) i (by omega)]; simp [show ¬ i < n by omega])]
  exact cnt_congr n (fun i hi => by rw [bt_bset p n (by omega) i (by omega)]; simp [hi])
theorem cnt_nI {m : Nat} (h : m < 64) : cnt (bt (nI m)) 24 = cnt m.testBit 6 := by
  rw [cnt_more (a := 6) 24 (by omega) (fun i h1 h2 => by rw [bt_nI m i (by omega)]; exact Nat.testBit_lt_two_pow (Nat.lt_of_lt_of_le h (show 2 ^ 6 ≤ 2 ^ i from Nat.pow_le_pow_right (by decide) h1)))]
  exact cnt_congr 6 (fun i hi => bt_nI m i (by omega))
theorem shl1 : ∀ n, n ≤ 6 → nI 1 <<< (nI n &&& 31) = nI (2 ^ n) := by decide +kernel
theorem pow6 {n : Nat} (h : n ≤ 6) : 2 ^ n ≤ 64 := Nat.pow_le_pow_right (n := 2) (by decide) h
theorem NowM.of {B n : Nat} {M M' : MM} {p : Pl} (h : NowM B M n p) (h1 : M' (B + 14) = M (B + 14)) : NowM B M' n p := by
  unfold NowM; rw [h1]; exact h
theorem pnt_RM {B : Nat} {M : MM} {g : Sg} {w : Nat → Option Nat} {cl : Nat → Nat} (hg : RM B M g) : RM B (pnt M B w cl 24) g := hg.of (fun k hk => by rw [pnt_oc (by omega) (by omega)]) (fun c h1 h2 => by rw [pnt_oc (by omega) (by omega)])
theorem wr_RM {B k : Nat} {M : MM} {g : Sg} {x : Int32} (hg : RM B M g) (hk : k = 25 ∨ k = 15) : RM B (wr M B k x) g := hg.of (fun k2 h2 => wr_oi (by omega)) (fun c h1 h2 => wr_oc (by omega))
/-- painted, counted: how many ships are sure in fog f -/
theorem m_nS {sh : Sh} {Mr : MR} {B : Nat} (hB : MD sh Mr B) (M : MM) (g : Sg) (hg : RM B M g) (hv : sgV g) (p : Pl) (hp : NowM B M g.1.1.1 p) (li sm : Nat → Bool) (hl : ∀ i, i < g.1.1.1 → (!bt (M B 25) i) = li i) (hs : bt (M (B + 14) 1) = sm) : CtV mX9_paint [.ref B] sh Mr M (fun M' => M' = pnt M B (who g.1.1 p li) (cof g.1.1 p li sm) 24) := by
  have h := m_paint (Mr := Mr) hB M g.1.1 p hg.1 hp
  rw [who_congr hl, cof_congr hl hs] at h
  exact h
theorem cof_row {B : Nat} {M : MM} {g : Sg} (hv : sgV g) {w : Nat → Option Nat} {p : Pl} {li sm : Nat → Bool} : ∀ s, s < 24 → pnt M B w (cof g.1.1 p li sm) 24 (B + 16) s = nI (cof g.1.1 p li sm s) ∧ cof g.1.1 p li sm s ≤ 4 := fun s hs => ⟨pnt_c hs, cof_le (fun i hi => (hv.1.1.2.2 i hi).1) s⟩
theorem r_needed {sh : Sh} {Mr : MR} {B : Nat} (hB : MD sh Mr B) (M : MM) (g : Sg) (hg : RM B M g) (hv : sgV g) (f : Int32) : CtI mX9_needed [.ref B, .int f] sh Mr M (PM B M (d_needed g f)) := by
  have h5 := hv.1.2.1.1
  have h6 := hv.1.1.1
  refine ct_of (mi := mX9_needed) (ls := [some (.ref B), some (.int f), none, none, none]) rfl rfl (Nat.le_of_ble_eq_true rfl) rfl ?_
  refine (ex_il1 dX9_needed_0 (ex_SP1 dX9_needed_1 lkX9_209 ⟨(Nat.le_of_ble_eq_true rfl), (Nat.le_of_ble_eq_true rfl)⟩ ⟨Nat.le_refl _, Nat.le_refl _⟩ (Nat.le_of_ble_eq_true rfl) (m_isFog _ _ _ _) (ex_ifB_ne (tgt := 9) dX9_needed_4 rfl (fun c4 => ?_) (fun c4 => ?_))))
  · have hF : isF f = true := c4
    obtain ⟨f, hf, rfl⟩ := isF_nat hF
    have hd : d_needed g (nI f) = (bset (fun i => decide (nS g.1 g.2.1 (fun j => lit g.1 g.2.1 j && !decide (j = i)) (bt g.2.1.2.1) f < nS g.1 g.2.1 (lit g.1 g.2.1) (bt g.2.1.2.1) f)) g.1.1.1, g) := by simp [d_needed, hF, cN_nI (show f < 2 ^ 31 by omega)]
    rw [hd]
    generalize hP : (fun i => decide (nS g.1 g.2.1 (fun j => lit g.1 g.2.1 j && !decide (j = i)) (bt g.2.1.2.1) f < nS g.1 g.2.1 (lit g.1 g.2.1) (bt g.2.1.2.1) f)) = P
    have hle : ∀ (li sm : Nat → Bool), nS g.1 g.2.1 li sm f ≤ 5 := fun li sm => Nat.le_trans (cnt_le _ _) h5
    have hm5 := hle (lit g.1 g.2.1) (bt g.2.1.2.1)
    refine (ex_al0 dX9_needed_9 (ex_VV0 dX9_needed_10 lkX9_190 (md_sh hB) ⟨_, _, rfl⟩ ⟨(Nat.le_of_ble_eq_true rfl), (Nat.le_of_ble_eq_true rfl)⟩ ⟨Nat.le_refl _, Nat.le_refl _⟩ (Nat.le_of_ble_eq_true rfl) (r_asItIs hB M g hg) (fun M10 h10 => ?_)))
    subst h10
    refine (ex_al0 dX9_needed_13 (ex_VV0 dX9_needed_14 lkX9_199 (md_sh hB) ⟨_, _, rfl⟩ ⟨(Nat.le_of_ble_eq_true rfl), (Nat.le_of_ble_eq_true rfl)⟩ ⟨Nat.le_refl _, Nat.le_refl _⟩ (Nat.le_of_ble_eq_true rfl) (r_paint hB M g hg hv) (fun M14 h14 => ?_)))
    subst h14
    refine (ex_al0 dX9_needed_17 (ex_il1 dX9_needed_18 (ex_VP1 dX9_needed_19 lkX9_184 (md_sh hB) ⟨_, _, rfl⟩ ⟨(Nat.le_of_ble_eq_true rfl), (Nat.le_of_ble_eq_true rfl)⟩ ⟨Nat.le_refl _, Nat.le_refl _⟩ (Nat.le_of_ble_eq_true rfl) (m_sureIn hB _ g.1.2.1 (lgt_RM hg).2.1 (cl0 g.1 g.2.1) (cl_row hv) f hf) (ex_SP1 dX9_needed_22 lkX9_218 ⟨(Nat.le_of_ble_eq_true rfl), (Nat.le_of_ble_eq_true rfl)⟩ ⟨Nat.le_refl _, Nat.le_refl _⟩ (Nat.le_of_ble_eq_true rfl) (m_bits _ _ _ _) (ex_top (y := nI ((nS g.1 g.2.1 (lit g.1 g.2.1) (bt g.2.1.2.1) f))) (by rw [cnt_bset (by omega) (by omega)]; rfl) (ex_is2 dX9_needed_25 (Nat.le_of_ble_eq_true rfl) rfl (ex_iconst (v := nI 0) dX9_needed_26 rfl (ex_is3 dX9_needed_27 (Nat.le_of_ble_eq_true rfl) rfl (ex_iconst (v := nI 0) dX9_needed_28 rfl (ex_is4 dX9_needed_29 (Nat.le_of_ble_eq_true rfl) rfl ?_))))))))))
    refine ex_for (I := fun i ls M' => ls = [some (.ref B), some (.int (nI f)), some (.int (nI (nS g.1 g.2.1 (lit g.1 g.2.1) (bt g.2.1.2.1) f))), some (.int (bset P i)), some (.int (nI i))] ∧ RM B M' g ∧ ∀ c, c < B → M' c = M c) g.1.1.1 ?_ ?_ 0 _ _ (Nat.zero_le _) ⟨rfl, lgt_RM hg, fun c hc => lgt_oc (Or.inl hc)⟩
    · intro i ls M' hi h ih
      obtain ⟨rfl, hg', hfr⟩ := h
      refine (ex_il4 dX9_needed_31 (ex_al0 dX9_needed_33 (ex_getI dX9_needed_34 flX9_85 (md_sh hB) (ex_top (hg'.1.1) (ex_icmp_geN (tgt := 90) dX9_needed_37 rfl (by omega) (by omega) (fun c37 => (absurd c37 (by omega))) (fun c37 => (ex_al0 dX9_needed_40 (ex_VV0 dX9_needed_41 lkX9_190 (md_sh hB) ⟨_, _, rfl⟩ ⟨(Nat.le_of_ble_eq_true rfl), (Nat.le_of_ble_eq_true rfl)⟩ ⟨Nat.le_refl _, Nat.le_refl _⟩ (Nat.le_of_ble_eq_true rfl) (r_asItIs hB M' g hg') (fun M41 h41 => ?_)))))))))
      subst h41
      have hli : ∀ j, j < g.1.1.1 → (!bt (wr (asIs B g.1.1.1 M') B 25 (asIs B g.1.1.1 M' B 25 ||| (nI 1 <<< (nI i &&& 31))) B 25) j) = (lit g.1 g.2.1 j && !decide (j = i)) := fun j hj => by
        rw [wr_s, b_or, one_shl (by omega) (by omega), ← asIs_lit hg' hj]
        cases bt (asIs B g.1.1.1 M' B 25) j <;> simp
      have hsm : bt (wr (asIs B g.1.1.1 M') B 25 (asIs B g.1.1.1 M' B 25 ||| (nI 1 <<< (nI i &&& 31))) (B + 14) 1) = bt g.2.1.2.1 := by
        rw [wr_oc (by omega), asIs_now (by omega)]
        exact congrArg bt hg'.2.2.2.2.1.2.1
      have hw := wr_RM (x := asIs B g.1.1.1 M' B 25 ||| (nI 1 <<< (nI i &&& 31))) (asIs_RM hg') (Or.inl rfl)
      refine (ex_al0 dX9_needed_44 (ex_dupR dX9_needed_45 (ex_getI dX9_needed_46 flX9_161 (md_sh hB) (ex_iconst (v := nI 1) dX9_needed_49 rfl (ex_il4 dX9_needed_50 (ex_ishl dX9_needed_52 (ex_ior dX9_needed_53 (ex_putI dX9_needed_54 (fpX9_161 _) (md_sh hB) (ex_al0 dX9_needed_57 (ex_VV0 dX9_needed_58 lkX9_199 (md_sh hB) ⟨_, _, rfl⟩ ⟨(Nat.le_of_ble_eq_true rfl), (Nat.le_of_ble_eq_true rfl)⟩ ⟨Nat.le_refl _, Nat.le_refl _⟩ (Nat.le_of_ble_eq_true rfl) (m_nS hB _ g hw hv (pl g.2.1) ((asIs_Now hg' hv).of (wr_oc (by omega))) _ _ hli hsm) (fun M58 h58 => ?_)))))))))))
      subst h58
      have hk5 := hle (fun j => lit g.1 g.2.1 j && !decide (j = i)) (bt g.2.1.2.1)
      have hfr2 : ∀ (w : Nat → Option Nat) (cl : Nat → Nat) c, c < B → pnt (wr (asIs B g.1.1.1 M') B 25 (asIs B g.1.1.1 M' B 25 ||| (nI 1 <<< (nI i &&& 31)))) B w cl 24 c = M c := fun w cl c hc => by rw [pnt_oc (by omega) (by omega), wr_oc (by omega), asIs_oc (by omega) (by omega)]; exact hfr c hc
      have hPi : P i = decide (nS g.1 g.2.1 (fun j => lit g.1 g.2.1 j && !decide (j = i)) (bt g.2.1.2.1) f < nS g.1 g.2.1 (lit g.1 g.2.1) (bt g.2.1.2.1) f) := by rw [← hP]
      refine (ex_il3 dX9_needed_61 (ex_al0 dX9_needed_62 (ex_il1 dX9_needed_63 (ex_VP1 dX9_needed_64 lkX9_184 (md_sh hB) ⟨_, _, rfl⟩ ⟨(Nat.le_of_ble_eq_true rfl), (Nat.le_of_ble_eq_true rfl)⟩ ⟨Nat.le_refl _, Nat.le_refl _⟩ (Nat.le_of_ble_eq_true rfl) (m_sureIn hB _ g.1.2.1 (pnt_RM hw).2.1 _ (cof_row hv) f hf) (ex_SP1 dX9_needed_67 lkX9_218 ⟨(Nat.le_of_ble_eq_true rfl), (Nat.le_of_ble_eq_true rfl)⟩ ⟨Nat.le_refl _, Nat.le_refl _⟩ (Nat.le_of_ble_eq_true rfl) (m_bits _ _ _ _) (ex_top (y := nI ((nS g.1 g.2.1 (fun j => lit g.1 g.2.1 j && !decide (j = i)) (bt g.2.1.2.1) f))) (by rw [cnt_bset (by omega) (by omega)]; rfl) (ex_il2 dX9_needed_70 (ex_icmp_geN (tgt := 81) dX9_needed_71 rfl (by omega) (by omega) (fun c71 => ?_) (fun c71 => ?_)))))))))
      · refine (ex_iconst (v := nI 0) dX9_needed_81 rfl (ex_ior dX9_needed_82 (ex_top (bset_f (by rw [hPi]; simp; omega)) (ex_is3 dX9_needed_83 (Nat.le_of_ble_eq_true rfl) rfl (ex_inc4 dX9_needed_84 (Nat.le_of_ble_eq_true rfl) rfl (inc1 _) (ex_goto (tgt := 31) dX9_needed_87 rfl ?_))))))
        exact ih _ _ ⟨rfl, pnt_RM hw, hfr2 _ _⟩
      · refine (ex_iconst (v := nI 1) dX9_needed_74 rfl (ex_il4 dX9_needed_75 (ex_ishl dX9_needed_77 (ex_goto (tgt := 82) dX9_needed_78 rfl (ex_ior dX9_needed_82 (ex_top (bset_t (by rw [hPi]; simp; omega)) (ex_is3 dX9_needed_83 (Nat.le_of_ble_eq_true rfl) rfl (ex_inc4 dX9_needed_84 (Nat.le_of_ble_eq_true rfl) rfl (inc1 _) (ex_goto (tgt := 31) dX9_needed_87 rfl ?_)))))))))
        exact ih _ _ ⟨rfl, pnt_RM hw, hfr2 _ _⟩
    · intro ls M' h
      obtain ⟨rfl, hg', hfr⟩ := h
      refine (ex_il4 dX9_needed_31 (ex_al0 dX9_needed_33 (ex_getI dX9_needed_34 flX9_85 (md_sh hB) (ex_top (hg'.1.1) (ex_icmp_geN (tgt := 90) dX9_needed_37 rfl (by omega) (by omega) (fun c37 => (ex_il3 dX9_needed_90 (ex_ri dX9_needed_91 rfl rfl (⟨rfl, hg', hfr⟩)))) (fun c37 => (absurd (Nat.le_refl _) c37)))))))
  · refine (ex_iconst (v := (-1)) dX9_needed_7 rfl (ex_ri dX9_needed_8 rfl rfl (⟨by simp [d_needed, isF, c4], hg, fun _ _ => rfl⟩)))
theorem lsF_lt {ok : Nat → Bool} : ∀ {m q : Nat}, lsF ok m = some q → q < m
  | 0, q, h => by cases h
  | m + 1, q, h => by
    unfold lsF at h
    split at h
    · cases h; omega
    · have := lsF_lt h; omega
theorem r_least {sh : Sh} {Mr : MR} {B : Nat} (hB : MD sh Mr B) (M : MM) (g : Sg) (hg : RM B M g) (hv : sgV g) (f : Int32) : CtI mX9_least [.ref B, .int f] sh Mr M (PM B M (d_least g f)) := by
  have h5 := hv.1.2.1.1
  have h6 := hv.1.1.1
  have h64 := pow6 h6
  refine ct_of (mi := mX9_least) (ls := [some (.ref B), some (.int f), none, none, none]) rfl rfl (Nat.le_of_ble_eq_true rfl) rfl ?_
  refine (ex_il1 dX9_least_0 (ex_SP1 dX9_least_1 lkX9_209 ⟨(Nat.le_of_ble_eq_true rfl), (Nat.le_of_ble_eq_true rfl)⟩ ⟨Nat.le_refl _, Nat.le_refl _⟩ (Nat.le_of_ble_eq_true rfl) (m_isFog _ _ _ _) (ex_ifB_ne (tgt := 9) dX9_least_4 rfl (fun c4 => ?_) (fun c4 => ?_))))
  · have hF : isF f = true := c4
    obtain ⟨f, hf, rfl⟩ := isF_nat hF
    have hd : d_least g (nI f) = (wI (lsF (fun m => decide (nS g.1 g.2.1 (lit g.1 g.2.1) (bt g.2.1.2.1) f ≤ nS g.1 g.2.1 (fun j => lit g.1 g.2.1 j && m.testBit j) (bt g.2.1.2.1) f)) (2 ^ g.1.1.1)), g) := by simp [d_least, hF, cN_nI (show f < 2 ^ 31 by omega)]
    rw [hd]
    generalize hP : (fun (m : Nat) => decide (nS g.1 g.2.1 (lit g.1 g.2.1) (bt g.2.1.2.1) f ≤ nS g.1 g.2.1 (fun j => lit g.1 g.2.1 j && m.testBit j) (bt g.2.1.2.1) f)) = P
    have hle : ∀ (li sm : Nat → Bool), nS g.1 g.2.1 li sm f ≤ 5 := fun li sm => Nat.le_trans (cnt_le _ _) h5
    have hm5 := hle (lit g.1 g.2.1) (bt g.2.1.2.1)
    refine (ex_al0 dX9_least_9 (ex_VV0 dX9_least_10 lkX9_190 (md_sh hB) ⟨_, _, rfl⟩ ⟨(Nat.le_of_ble_eq_true rfl), (Nat.le_of_ble_eq_true rfl)⟩ ⟨Nat.le_refl _, Nat.le_refl _⟩ (Nat.le_of_ble_eq_true rfl) (r_asItIs hB M g hg) (fun M10 h10 => ?_)))
    subst h10
    refine (ex_al0 dX9_least_13 (ex_VV0 dX9_least_14 lkX9_199 (md_sh hB) ⟨_, _, rfl⟩ ⟨(Nat.le_of_ble_eq_true rfl), (Nat.le_of_ble_eq_true rfl)⟩ ⟨Nat.le_refl _, Nat.le_refl _⟩ (Nat.le_of_ble_eq_true rfl) (r_paint hB M g hg hv) (fun M14 h14 => ?_)))
    subst h14
    refine (ex_al0 dX9_least_17 (ex_il1 dX9_least_18 (ex_VP1 dX9_least_19 lkX9_184 (md_sh hB) ⟨_, _, rfl⟩ ⟨(Nat.le_of_ble_eq_true rfl), (Nat.le_of_ble_eq_true rfl)⟩ ⟨Nat.le_refl _, Nat.le_refl _⟩ (Nat.le_of_ble_eq_true rfl) (m_sureIn hB _ g.1.2.1 (lgt_RM hg).2.1 (cl0 g.1 g.2.1) (cl_row hv) f hf) (ex_SP1 dX9_least_22 lkX9_218 ⟨(Nat.le_of_ble_eq_true rfl), (Nat.le_of_ble_eq_true rfl)⟩ ⟨Nat.le_refl _, Nat.le_refl _⟩ (Nat.le_of_ble_eq_true rfl) (m_bits _ _ _ _) (ex_top (y := nI ((nS g.1 g.2.1 (lit g.1 g.2.1) (bt g.2.1.2.1) f))) (by rw [cnt_bset (by omega) (by omega)]; rfl) (ex_is2 dX9_least_25 (Nat.le_of_ble_eq_true rfl) rfl (ex_iconst (v := (-1)) dX9_least_26 rfl (ex_is3 dX9_least_27 (Nat.le_of_ble_eq_true rfl) rfl (ex_iconst (v := nI 0) dX9_least_28 rfl (ex_is4 dX9_least_29 (Nat.le_of_ble_eq_true rfl) rfl ?_))))))))))
    refine ex_for (I := fun m ls M' => ls = [some (.ref B), some (.int (nI f)), some (.int (nI (nS g.1 g.2.1 (lit g.1 g.2.1) (bt g.2.1.2.1) f))), some (.int (wI (lsF P m))), some (.int (nI m))] ∧ RM B M' g ∧ ∀ c, c < B → M' c = M c) (2 ^ g.1.1.1) ?_ ?_ 0 _ _ (Nat.zero_le _) ⟨rfl, lgt_RM hg, fun c hc => lgt_oc (Or.inl hc)⟩
    · intro m ls M' hm h ih
      obtain ⟨rfl, hg', hfr⟩ := h
      have hql : ∀ q, lsF P m = some q → q < 2 ^ 31 := fun q h => by have := lsF_lt h; omega
      have hPm : P m = decide (nS g.1 g.2.1 (lit g.1 g.2.1) (bt g.2.1.2.1) f ≤ nS g.1 g.2.1 (fun j => lit g.1 g.2.1 j && m.testBit j) (bt g.2.1.2.1) f) := by rw [← hP]
      have hst : lsF P (m + 1) = if bet (lsF P m) m && P m then some m else lsF P m := rfl
      have hcm := cnt_le m.testBit 6
      -- the try of the set m
      have J : bet (lsF P m) m = true → EI mX9_least sh Mr (PM B M (wI (lsF P (2 ^ g.1.1.1)), g)) 58 [some (.ref B), some (.int (nI f)), some (.int (nI (nS g.1 g.2.1 (lit g.1 g.2.1) (bt g.2.1.2.1) f))), some (.int (wI (lsF P m))), some (.int (nI m))] [] M' := by
        intro hcond
        refine (ex_al0 dX9_least_58 (ex_VV0 dX9_least_59 lkX9_190 (md_sh hB) ⟨_, _, rfl⟩ ⟨(Nat.le_of_ble_eq_true rfl), (Nat.le_of_ble_eq_true rfl)⟩ ⟨Nat.le_refl _, Nat.le_refl _⟩ (Nat.le_of_ble_eq_true rfl) (r_asItIs hB M' g hg') (fun M59 h59 => ?_)))
        subst h59
        have hli : ∀ j, j < g.1.1.1 → (!bt (wr (asIs B g.1.1.1 M') B 25 (asIs B g.1.1.1 M' B 25 ||| (nI m ^^^ (-1))) B 25) j) = (lit g.1 g.2.1 j && m.testBit j) := fun j hj => by
          rw [wr_s, b_or, bt_not _ (by omega), bt_nI m j (by omega), ← asIs_lit hg' hj]
          cases bt (asIs B g.1.1.1 M' B 25) j <;> simp
        have hsm : bt (wr (asIs B g.1.1.1 M') B 25 (asIs B g.1.1.1 M' B 25 ||| (nI m ^^^ (-1))) (B + 14) 1) = bt g.2.1.2.1 := by
          rw [wr_oc (by omega), asIs_now (by omega)]
          exact congrArg bt hg'.2.2.2.2.1.2.1
        have hw := wr_RM (x := asIs B g.1.1.1 M' B 25 ||| (nI m ^^^ (-1))) (asIs_RM hg') (Or.inl rfl)
        refine (ex_al0 dX9_least_62 (ex_dupR dX9_least_63 (ex_getI dX9_least_64 flX9_161 (md_sh hB) (ex_il4 dX9_least_67 (ex_iconst (v := (-1)) dX9_least_69 rfl (ex_ixor dX9_least_70 (ex_ior dX9_least_71 (ex_putI dX9_least_72 (fpX9_161 _) (md_sh hB) (ex_al0 dX9_least_75 (ex_VV0 dX9_least_76 lkX9_199 (md_sh hB) ⟨_, _, rfl⟩ ⟨(Nat.le_of_ble_eq_true rfl), (Nat.le_of_ble_eq_true rfl)⟩ ⟨Nat.le_refl _, Nat.le_refl _⟩ (Nat.le_of_ble_eq_true rfl) (m_nS hB _ g hw hv (pl g.2.1) ((asIs_Now hg' hv).of (wr_oc (by omega))) _ _ hli hsm) (fun M76 h76 => ?_)))))))))))
        subst h76
        have hk5 := hle (fun j => lit g.1 g.2.1 j && m.testBit j) (bt g.2.1.2.1)
        have hfr2 : ∀ (w : Nat → Option Nat) (cl : Nat → Nat) c, c < B → pnt (wr (asIs B g.1.1.1 M') B 25 (asIs B g.1.1.1 M' B 25 ||| (nI m ^^^ (-1)))) B w cl 24 c = M c := fun w cl c hc => by rw [pnt_oc (by omega) (by omega), wr_oc (by omega), asIs_oc (by omega) (by omega)]; exact hfr c hc
        refine (ex_al0 dX9_least_79 (ex_il1 dX9_least_80 (ex_VP1 dX9_least_81 lkX9_184 (md_sh hB) ⟨_, _, rfl⟩ ⟨(Nat.le_of_ble_eq_true rfl), (Nat.le_of_ble_eq_true rfl)⟩ ⟨Nat.le_refl _, Nat.le_refl _⟩ (Nat.le_of_ble_eq_true rfl) (m_sureIn hB _ g.1.2.1 (pnt_RM hw).2.1 _ (cof_row hv) f hf) (ex_SP1 dX9_least_84 lkX9_218 ⟨(Nat.le_of_ble_eq_true rfl), (Nat.le_of_ble_eq_true rfl)⟩ ⟨Nat.le_refl _, Nat.le_refl _⟩ (Nat.le_of_ble_eq_true rfl) (m_bits _ _ _ _) (ex_top (y := nI ((nS g.1 g.2.1 (fun j => lit g.1 g.2.1 j && m.testBit j) (bt g.2.1.2.1) f))) (by rw [cnt_bset (by omega) (by omega)]; rfl) (ex_il2 dX9_least_87 (ex_icmp_ltN (tgt := 96) dX9_least_88 rfl (by omega) (by omega) (fun c88 => ?_) (fun c88 => ?_))))))))
        · refine (ex_il3 dX9_least_96 (ex_is3 dX9_least_97 (Nat.le_of_ble_eq_true rfl) rfl (ex_inc4 dX9_least_98 (Nat.le_of_ble_eq_true rfl) rfl (inc1 _) (ex_goto (tgt := 31) dX9_least_101 rfl ?_))))
          refine ih _ _ ⟨?_, pnt_RM hw, hfr2 _ _⟩
          rw [hst, hcond, hPm, if_neg (by simp; omega)]
        · refine (ex_il4 dX9_least_91 (ex_goto (tgt := 97) dX9_least_93 rfl (ex_is3 dX9_least_97 (Nat.le_of_ble_eq_true rfl) rfl (ex_inc4 dX9_least_98 (Nat.le_of_ble_eq_true rfl) rfl (inc1 _) (ex_goto (tgt := 31) dX9_least_101 rfl ?_)))))
          refine ih _ _ ⟨?_, pnt_RM hw, hfr2 _ _⟩
          rw [hst, hcond, hPm, if_pos (by simp; omega)]; rfl
      refine (ex_il4 dX9_least_31 (ex_iconst (v := nI 1) dX9_least_33 rfl (ex_al0 dX9_least_34 (ex_getI dX9_least_35 flX9_85 (md_sh hB) (ex_top (hg'.1.1) (ex_ishl dX9_least_38 (ex_top (y := nI ((2 ^ g.1.1.1))) (shl1 _ h6) (ex_icmp_geN (tgt := 104) dX9_least_39 rfl (by omega) (by omega) (fun c39 => (absurd c39 (by omega))) (fun c39 => (ex_il3 dX9_least_42 (ex_if_lt (tgt := 58) dX9_least_43 rfl (fun c43 => ?_) (fun c43 => ?_))))))))))))
      · exact J (by rw [(wI_neg hql).mp c43]; rfl)
      · cases hq : lsF P m with
        | none => exact absurd ((wI_neg hql).mpr hq) c43
        | some q =>
          have hq2 := lsF_lt hq
          have hcq := cnt_le q.testBit 6
          rw [hq] at J hst
          refine (ex_il4 dX9_least_46 (ex_SP1 dX9_least_48 lkX9_218 ⟨(Nat.le_of_ble_eq_true rfl), (Nat.le_of_ble_eq_true rfl)⟩ ⟨Nat.le_refl _, Nat.le_refl _⟩ (Nat.le_of_ble_eq_true rfl) (m_bits _ _ _ _) (ex_top (y := nI ((cnt m.testBit 6))) (by rw [cnt_nI (by omega)]) (ex_il3 dX9_least_51 (ex_SP1 dX9_least_52 lkX9_218 ⟨(Nat.le_of_ble_eq_true rfl), (Nat.le_of_ble_eq_true rfl)⟩ ⟨Nat.le_refl _, Nat.le_refl _⟩ (Nat.le_of_ble_eq_true rfl) (m_bits _ _ _ _) (ex_top (y := nI ((cnt q.testBit 6))) (by show nI (cnt (bt (nI q)) 24) = _; rw [cnt_nI (by omega)]) (ex_icmp_geN (tgt := 98) dX9_least_55 rfl (by omega) (by omega) (fun c55 => ?_) (fun c55 => ?_))))))))
          · refine (ex_inc4 dX9_least_98 (Nat.le_of_ble_eq_true rfl) rfl (inc1 _) (ex_goto (tgt := 31) dX9_least_101 rfl ?_))
            refine ih _ _ ⟨?_, hg', hfr⟩
            rw [hst, if_neg (by simp [bet]; omega)]
          · exact J (by simp [bet]; omega)
    · intro ls M' h
      obtain ⟨rfl, hg', hfr⟩ := h
      refine (ex_il4 dX9_least_31 (ex_iconst (v := nI 1) dX9_least_33 rfl (ex_al0 dX9_least_34 (ex_getI dX9_least_35 flX9_85 (md_sh hB) (ex_top (hg'.1.1) (ex_ishl dX9_least_38 (ex_top (y := nI ((2 ^ g.1.1.1))) (shl1 _ h6) (ex_icmp_geN (tgt := 104) dX9_least_39 rfl (by omega) (by omega) (fun c39 => (ex_il3 dX9_least_104 (ex_ri dX9_least_105 rfl rfl (⟨rfl, hg', hfr⟩)))) (fun c39 => (absurd (Nat.le_refl _) c39))))))))))
  · refine (ex_iconst (v := (-1)) dX9_least_7 rfl (ex_ri dX9_least_8 rfl rfl (⟨by simp [d_least, isF, c4], hg, fun _ _ => rfl⟩)))
