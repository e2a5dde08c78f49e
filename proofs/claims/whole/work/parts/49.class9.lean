/-! the class: what the lamp shows -/
def CoX (M : MM) (cl : Nat → Nat) : Prop := ∀ c, c < 4 → ∀ s, s < 32 → bt (M 83 c) s = (decide (s < 24) && decide (cl s = c))
theorem CoX.of {M M' : MM} {cl : Nat → Nat} (h : CoX M cl) (h3 : M' 83 = M 83) : CoX M' cl := by
  unfold CoX
  rw [h3]
  exact h
theorem x_colourAt {sh : Sh} {Mr : MR} {L D : Nat} (hG : GX sh Mr L D) (M : MM) (cl : Nat → Nat) (hc : CoX M cl) (s : Nat) (hs : s < 24) (h4 : cl s ≤ 4) : CtP mX0_colourAt [.ref 80, .int (nI s)] sh Mr M (nI (cl s)) := by
  refine ct_of (mi := mX0_colourAt) (ls := [some (.ref 80), some (.int (nI s)), none]) rfl rfl (Nat.le_of_ble_eq_true rfl) rfl ?_
  refine (ex_iconst (v := nI 0) dX0_colourAt_0 rfl (ex_is2 dX0_colourAt_1 (Nat.le_of_ble_eq_true rfl) rfl ?_))
  refine ex_for (I := fun c ls M' => ls = [some (.ref 80), some (.int (nI s)), some (.int (nI c))] ∧ (∀ k, k < c → cl s ≠ k) ∧ M' = M) 4 ?_ ?_ 0 _ _ (Nat.zero_le _) ⟨rfl, fun k hk => by omega, rfl⟩
  · intro c ls M' hc4 h ih
    obtain ⟨rfl, f1, rfl⟩ := h
    have hb : bt (M' 83 c) s = decide (cl s = c) := by rw [hc c hc4 s (by omega)]; simp [hs]
    refine (ex_il2 dX0_colourAt_2 (ex_iconst (v := nI 4) dX0_colourAt_3 rfl (ex_icmp_geN (tgt := 29) dX0_colourAt_4 rfl (by omega) (by omega) (fun c4 => (absurd c4 (by omega))) (fun c4 => (ex_al0 dX0_colourAt_7 (ex_getR dX0_colourAt_8 flX0_18 (gx80 hG) (gr80_2 hG) (ex_il2 dX0_colourAt_11 (ex_ildN dX0_colourAt_12 (gx83 hG) (by omega) (by omega) (ex_il1 dX0_colourAt_13 (ex_ishr dX0_colourAt_14 (ex_iconst (v := nI 1) dX0_colourAt_15 rfl (ex_iand dX0_colourAt_16 (ex_top (y := bI ((decide (cl s = c)))) (by rw [bit1 _ (by omega), hb]) (ex_iconst (v := nI 1) dX0_colourAt_17 rfl (ex_icmp_ne (tgt := 23) dX0_colourAt_18 rfl (fun c18 => ?_) (fun c18 => ?_))))))))))))))))
    · refine (ex_inc2 dX0_colourAt_23 (Nat.le_of_ble_eq_true rfl) rfl (inc1 _) (ex_goto (tgt := 2) dX0_colourAt_26 rfl ?_))
      refine ih _ _ ⟨rfl, fun k hk => ?_, rfl⟩
      by_cases e : k = c
      · subst e
        intro h
        exact c18 (by rw [h]; simp [bI])
      · exact f1 k (by omega)
    · have e := of_decide_eq_true (bI_1.mp c18)
      refine (ex_il2 dX0_colourAt_21 (ex_ri dX0_colourAt_22 rfl rfl (⟨by rw [e], rfl⟩)))
  · intro ls M' h
    obtain ⟨rfl, f1, rfl⟩ := h
    have e : cl s = 4 := by
      have h0 := f1 0 (by omega)
      have h1 := f1 1 (by omega)
      have h2 := f1 2 (by omega)
      have h3 := f1 3 (by omega)
      omega
    refine (ex_il2 dX0_colourAt_2 (ex_iconst (v := nI 4) dX0_colourAt_3 rfl (ex_icmp_geN (tgt := 29) dX0_colourAt_4 rfl (by omega) (by omega) (fun c4 => (ex_iconst (v := nI 4) dX0_colourAt_29 rfl (ex_ri dX0_colourAt_30 rfl rfl (⟨by rw [e], rfl⟩)))) (fun c4 => (absurd (Nat.le_refl 4) c4)))))
theorem x_ownerAt {sh : Sh} {Mr : MR} {L D : Nat} (hG : GX sh Mr L D) (M : MM) (w : Nat → Option Nat) (hw : ∀ i, i < 6 → ∀ s, s < 32 → bt (M 82 i) s = (decide (s < 24) && decide (w s = some i))) (s : Nat) (hs : s < 24) (h6 : ∀ i, w s = some i → i < 6) : CtP mX0_ownerAt [.ref 80, .int (nI s)] sh Mr M (wN (w s)) := by
  refine ct_of (mi := mX0_ownerAt) (ls := [some (.ref 80), some (.int (nI s)), none]) rfl rfl (Nat.le_of_ble_eq_true rfl) rfl ?_
  refine (ex_iconst (v := nI 0) dX0_ownerAt_0 rfl (ex_is2 dX0_ownerAt_1 (Nat.le_of_ble_eq_true rfl) rfl ?_))
  refine ex_for (I := fun c ls M' => ls = [some (.ref 80), some (.int (nI s)), some (.int (nI c))] ∧ (∀ k, k < c → w s ≠ some k) ∧ M' = M) 6 ?_ ?_ 0 _ _ (Nat.zero_le _) ⟨rfl, fun k hk => by omega, rfl⟩
  · intro c ls M' hc4 h ih
    obtain ⟨rfl, f1, rfl⟩ := h
    have hb : bt (M' 82 c) s = decide (w s = some c) := by rw [hw c hc4 s (by omega)]; simp [hs]
    refine (ex_il2 dX0_ownerAt_2 (ex_bipush (v := nI 6) dX0_ownerAt_3 rfl (ex_icmp_geN (tgt := 30) dX0_ownerAt_5 rfl (by omega) (by omega) (fun c5 => (absurd c5 (by omega))) (fun c5 => (ex_al0 dX0_ownerAt_8 (ex_getR dX0_ownerAt_9 flX0_15 (gx80 hG) (gr80_1 hG) (ex_il2 dX0_ownerAt_12 (ex_ildN dX0_ownerAt_13 (gx82 hG) (by omega) (by omega) (ex_il1 dX0_ownerAt_14 (ex_ishr dX0_ownerAt_15 (ex_iconst (v := nI 1) dX0_ownerAt_16 rfl (ex_iand dX0_ownerAt_17 (ex_top (y := bI ((decide (w s = some c)))) (by rw [bit1 _ (by omega), hb]) (ex_iconst (v := nI 1) dX0_ownerAt_18 rfl (ex_icmp_ne (tgt := 24) dX0_ownerAt_19 rfl (fun c19 => ?_) (fun c19 => ?_))))))))))))))))
    · refine (ex_inc2 dX0_ownerAt_24 (Nat.le_of_ble_eq_true rfl) rfl (inc1 _) (ex_goto (tgt := 2) dX0_ownerAt_27 rfl ?_))
      refine ih _ _ ⟨rfl, fun k hk => ?_, rfl⟩
      by_cases e : k = c
      · subst e
        intro h
        exact c19 (by rw [h]; simp [bI])
      · exact f1 k (by omega)
    · have e := of_decide_eq_true (bI_1.mp c19)
      refine (ex_il2 dX0_ownerAt_22 (ex_ri dX0_ownerAt_23 rfl rfl (⟨by rw [e]; rfl, rfl⟩)))
  · intro ls M' h
    obtain ⟨rfl, f1, rfl⟩ := h
    have e : w s = none := by
      cases h : w s with
      | none => rfl
      | some k => exact absurd h (f1 k (h6 k h))
    refine (ex_il2 dX0_ownerAt_2 (ex_bipush (v := nI 6) dX0_ownerAt_3 rfl (ex_icmp_geN (tgt := 30) dX0_ownerAt_5 rfl (by omega) (by omega) (fun c5 => (ex_bipush (v := (-4)) dX0_ownerAt_30 rfl (ex_ri dX0_ownerAt_32 rfl rfl (⟨by rw [e]; rfl, rfl⟩)))) (fun c5 => (absurd (Nat.le_refl 6) c5)))))
theorem bt0 {x : Int32} {p : Nat → Bool} (h : ∀ s, s < 32 → bt x s = (decide (s < 24) && p s)) : x = 0 ↔ anyb p 24 = false := by
  constructor
  · intro e
    cases ha : anyb p 24
    · rfl
    · exfalso
      obtain ⟨i, hi, hp⟩ := anyb_iff.mp ha
      have := h i (by omega)
      rw [e, b_0, hp] at this
      simp [hi] at this
  · intro e
    refine b_ext (fun i hi => ?_)
    rw [b_0, h i hi]
    by_cases h24 : i < 24
    · cases hp : p i
      · simp
      · have := anyb_iff.mpr ⟨i, h24, hp⟩
        rw [e] at this
        cases this
    · simp [h24]
theorem x_firstSign {sh : Sh} {Mr : MR} {L D : Nat} (hG : GX sh Mr L D) (M : MM) (cl : Nat → Nat) (hc : CoX M cl) (sees : Int32) (se : Nat → Bool) (hse : ∀ s, s < 32 → bt sees s = (decide (s < 24) && se s)) (f : Nat) (hf : f < 4) : CtP mX0_firstSign [.ref 80, .int sees, .int (nI f)] sh Mr M (wN (sgn cl se f)) := by
  refine ct_of (mi := mX0_firstSign) (ls := [some (.ref 80), some (.int sees), some (.int (nI f)), none]) rfl rfl (Nat.le_of_ble_eq_true rfl) rfl ?_
  refine (ex_iconst (v := nI 0) dX0_firstSign_0 rfl (ex_is3 dX0_firstSign_1 (Nat.le_of_ble_eq_true rfl) rfl ?_))
  refine ex_for (I := fun c ls M' => ls = [some (.ref 80), some (.int sees), some (.int (nI f)), some (.int (nI c))] ∧ (∀ k, k < c → sgp cl se f k = false) ∧ M' = M) (4 - f) ?_ ?_ 0 _ _ (Nat.zero_le _) ⟨rfl, fun k hk => by omega, rfl⟩
  · intro c ls M' hc4 h ih
    obtain ⟨rfl, f1, rfl⟩ := h
    have z1 : M' 83 c &&& sees = 0 ↔ anyb (fun s => decide (cl s = c) && se s) 24 = false := bt0 (fun s hs => by rw [b_and, hc c (by omega) s hs, hse s hs]; cases decide (s < 24) <;> simp)
    have z2 : M' 83 c &&& (sees ^^^ (-1)) = 0 ↔ anyb (fun s => decide (cl s = c) && !se s) 24 = false := bt0 (fun s hs => by rw [b_and, bt_not _ hs, hc c (by omega) s hs, hse s hs]; cases decide (s < 24) <;> simp)
    have next : sgp cl se f c = false → ∀ k, k < c + 1 → sgp cl se f k = false := fun h k hk => by
      by_cases e : k = c
      · subst e; exact h
      · exact f1 k (by omega)
    refine (ex_il3 dX0_firstSign_2 (ex_il2 dX0_firstSign_3 (ex_SP1 dX0_firstSign_4 lkX0_54 ⟨(Nat.le_of_ble_eq_true rfl), (Nat.le_of_ble_eq_true rfl)⟩ ⟨Nat.le_refl _, Nat.le_refl _⟩ (Nat.le_of_ble_eq_true rfl) (x_colSeen f hf _ _ _) (ex_icmp_geN (tgt := 42) dX0_firstSign_7 rfl (by omega) (by omega) (fun c7 => (absurd c7 (by omega))) (fun c7 => (ex_al0 dX0_firstSign_10 (ex_getR dX0_firstSign_11 flX0_18 (gx80 hG) (gr80_2 hG) (ex_il3 dX0_firstSign_14 (ex_ildN dX0_firstSign_15 (gx83 hG) (by omega) (by omega) (ex_il1 dX0_firstSign_16 (ex_iand dX0_firstSign_17 (ex_if_eq (tgt := 36) dX0_firstSign_18 rfl (fun c18 => ?_) (fun c18 => ?_)))))))))))))
    · refine (ex_inc3 dX0_firstSign_36 (Nat.le_of_ble_eq_true rfl) rfl (inc1 _) (ex_goto (tgt := 2) dX0_firstSign_39 rfl ?_))
      exact ih _ _ ⟨rfl, next (by unfold sgp; rw [z1.mp c18]; rfl), rfl⟩
    · refine (ex_al0 dX0_firstSign_21 (ex_getR dX0_firstSign_22 flX0_18 (gx80 hG) (gr80_2 hG) (ex_il3 dX0_firstSign_25 (ex_ildN dX0_firstSign_26 (gx83 hG) (by omega) (by omega) (ex_il1 dX0_firstSign_27 (ex_iconst (v := (-1)) dX0_firstSign_28 rfl (ex_ixor dX0_firstSign_29 (ex_iand dX0_firstSign_30 (ex_if_ne (tgt := 36) dX0_firstSign_31 rfl (fun c31 => ?_) (fun c31 => ?_))))))))))
      · refine (ex_inc3 dX0_firstSign_36 (Nat.le_of_ble_eq_true rfl) rfl (inc1 _) (ex_goto (tgt := 2) dX0_firstSign_39 rfl ?_))
        refine ih _ _ ⟨rfl, next ?_, rfl⟩
        unfold sgp
        have h1 : anyb (fun s => decide (cl s = c) && !se s) 24 = true := by
          cases h : anyb (fun s => decide (cl s = c) && !se s) 24
          · exact absurd (z2.mpr h) c31
          · rfl
        rw [h1]
        simp
      · have h1 : anyb (fun s => decide (cl s = c) && se s) 24 = true := by
          cases h : anyb (fun s => decide (cl s = c) && se s) 24
          · exact absurd (z1.mpr h) c18
          · rfl
        have h2 : sgp cl se f c = true := by unfold sgp; rw [h1, z2.mp c31]; simp; omega
        refine (ex_il3 dX0_firstSign_34 (ex_ri dX0_firstSign_35 rfl rfl (⟨by unfold sgn; rw [fst_eq (k := c) (by omega) h2 f1]; rfl, rfl⟩)))
  · intro ls M' h
    obtain ⟨rfl, f1, rfl⟩ := h
    have e : sgn cl se f = none := by
      unfold sgn
      refine fst_no (fun k hk => ?_)
      by_cases h : k < 4 - f
      · exact f1 k h
      · unfold sgp; simp [show ¬ k + f < 4 by omega]
    refine (ex_il3 dX0_firstSign_2 (ex_il2 dX0_firstSign_3 (ex_SP1 dX0_firstSign_4 lkX0_54 ⟨(Nat.le_of_ble_eq_true rfl), (Nat.le_of_ble_eq_true rfl)⟩ ⟨Nat.le_refl _, Nat.le_refl _⟩ (Nat.le_of_ble_eq_true rfl) (x_colSeen f hf _ _ _) (ex_icmp_geN (tgt := 42) dX0_firstSign_7 rfl (by omega) (by omega) (fun c7 => (ex_bipush (v := (-4)) dX0_firstSign_42 rfl (ex_ri dX0_firstSign_44 rfl rfl (⟨by rw [e]; rfl, rfl⟩)))) (fun c7 => (absurd (Nat.le_refl _) c7))))))
theorem wN_4 {o : Option Nat} (h : ∀ i, o = some i → i < 2 ^ 31) : wN o = -4 ↔ o.isSome = false := by
  cases o with
  | none => simp [wN]
  | some i =>
    simp only [wN, Option.isSome_some]
    constructor
    · intro e
      have h3 := congrArg Int32.toInt e
      rw [nI_toInt (h i rfl)] at h3
      have h4 : (-4 : Int32).toInt = -4 := by decide
      omega
    · intro e; cases e
theorem x_sureShips {sh : Sh} {Mr : MR} {L D : Nat} (hG : GX sh Mr L D) (M : MM) (o : To) (ho : LdX M L o) (cl : Nat → Nat) (hc : CoX M cl) (f : Nat) (hf : f < 4) : CtP mX0_sureShips [.ref 80, .ref L, .int (nI f)] sh Mr M (bset (sur cl o.2.1 f) o.2.1.1) := by
  have h5 := ho.2.1.2.1
  refine ct_of (mi := mX0_sureShips) (ls := [some (.ref 80), some (.ref L), some (.int (nI f)), none, none]) rfl rfl (Nat.le_of_ble_eq_true rfl) rfl ?_
  refine (ex_iconst (v := nI 0) dX0_sureShips_0 rfl (ex_is3 dX0_sureShips_1 (Nat.le_of_ble_eq_true rfl) rfl (ex_iconst (v := nI 0) dX0_sureShips_2 rfl (ex_is4 dX0_sureShips_3 (Nat.le_of_ble_eq_true rfl) rfl ?_))))
  refine ex_for (I := fun k ls M' => ls = [some (.ref 80), some (.ref L), some (.int (nI f)), some (.int (bset (sur cl o.2.1 f) k)), some (.int (nI k))] ∧ M' = M) o.2.1.1 ?_ ?_ 0 _ _ (Nat.zero_le _) ⟨rfl, rfl⟩
  · intro k ls M' hk h ih
    obtain ⟨rfl, rfl⟩ := h
    have hse := (ho.2.1.2.2 k hk).2.2
    have hw := wN_4 (o := sgn cl (seb (o.2.1.2.1 k) (o.2.1.2.2 k)) f) (fun i hi => by have := sgn_lt hi; omega)
    refine (ex_il4 dX0_sureShips_5 (ex_al1 dX0_sureShips_7 (ex_getI dX0_sureShips_8 flX0_58 (la_sh (laL hG)) (ex_top (ho.2.1.1) (ex_icmp_geN (tgt := 44) dX0_sureShips_11 rfl (by omega) (by omega) (fun c11 => (absurd c11 (by omega))) (fun c11 => (ex_al0 dX0_sureShips_14 (ex_al1 dX0_sureShips_15 (ex_getR dX0_sureShips_16 flX0_61 (la_sh (laL hG)) (la_r9 (laL hG)) (ex_il4 dX0_sureShips_19 (ex_ildN dX0_sureShips_21 (la_a9 (laL hG)) (by omega) (by omega) (ex_il2 dX0_sureShips_22 (ex_VP2 dX0_sureShips_23 lkX0_64 (gx80 hG) ⟨_, _, rfl⟩ ⟨(Nat.le_of_ble_eq_true rfl), (Nat.le_of_ble_eq_true rfl)⟩ ⟨Nat.le_refl _, Nat.le_refl _⟩ (Nat.le_of_ble_eq_true rfl) (x_firstSign hG M' cl hc _ (seb (o.2.1.2.1 k) (o.2.1.2.2 k)) hse f hf) (ex_bipush (v := (-4)) dX0_sureShips_26 rfl (ex_icmp_eq (tgt := 38) dX0_sureShips_28 rfl (fun c28 => ?_) (fun c28 => ?_))))))))))))))))
    · refine (ex_inc4 dX0_sureShips_38 (Nat.le_of_ble_eq_true rfl) rfl (inc1 _) (ex_goto (tgt := 5) dX0_sureShips_41 rfl ?_))
      refine ih _ _ ⟨?_, rfl⟩
      rw [bset_s (p := sur cl o.2.1 f) (n := k) (hw.mp c28)]
    · have ht : sur cl o.2.1 f k = true := by
        unfold sur
        cases h : (sgn cl (seb (o.2.1.2.1 k) (o.2.1.2.2 k)) f).isSome
        · exact absurd (hw.mpr h) c28
        · rfl
      refine (ex_il3 dX0_sureShips_31 (ex_iconst (v := nI 1) dX0_sureShips_32 rfl (ex_il4 dX0_sureShips_33 (ex_ishl dX0_sureShips_35 (ex_ior dX0_sureShips_36 (ex_top (bset_t ht) (ex_is3 dX0_sureShips_37 (Nat.le_of_ble_eq_true rfl) rfl (ex_inc4 dX0_sureShips_38 (Nat.le_of_ble_eq_true rfl) rfl (inc1 _) (ex_goto (tgt := 5) dX0_sureShips_41 rfl ?_)))))))))
      exact ih _ _ ⟨rfl, rfl⟩
  · intro ls M' h
    obtain ⟨rfl, rfl⟩ := h
    refine (ex_il4 dX0_sureShips_5 (ex_al1 dX0_sureShips_7 (ex_getI dX0_sureShips_8 flX0_58 (la_sh (laL hG)) (ex_top (ho.2.1.1) (ex_icmp_geN (tgt := 44) dX0_sureShips_11 rfl (by omega) (by omega) (fun c11 => (ex_il3 dX0_sureShips_44 (ex_ri dX0_sureShips_45 rfl rfl (⟨rfl, rfl⟩)))) (fun c11 => (absurd (Nat.le_refl _) c11)))))))
theorem x_sureAny {sh : Sh} {Mr : MR} {L D : Nat} (hG : GX sh Mr L D) (M : MM) (o : To) (ho : LdX M L o) (cl : Nat → Nat) (hc : CoX M cl) : CtP mX0_sureInAnyFog [.ref 80, .ref L] sh Mr M (bset (sur cl o.2.1 3) o.2.1.1) := by
  refine ct_of (mi := mX0_sureInAnyFog) (ls := [some (.ref 80), some (.ref L)]) rfl rfl (Nat.le_of_ble_eq_true rfl) rfl ?_
  refine (ex_al0 dX0_sureInAnyFog_0 (ex_al1 dX0_sureInAnyFog_1 (ex_iconst (v := nI 3) dX0_sureInAnyFog_2 rfl (ex_VP2 dX0_sureInAnyFog_3 lkX0_68 (gx80 hG) ⟨_, _, rfl⟩ ⟨(Nat.le_of_ble_eq_true rfl), (Nat.le_of_ble_eq_true rfl)⟩ ⟨Nat.le_refl _, Nat.le_refl _⟩ (Nat.le_of_ble_eq_true rfl) (x_sureShips hG M o ho cl hc 3 (by omega)) (ex_ri dX0_sureInAnyFog_6 rfl rfl (⟨rfl, rfl⟩))))))
theorem x_unsure {sh : Sh} {Mr : MR} {L D : Nat} (hG : GX sh Mr L D) (M : MM) (o : To) (ho : LdX M L o) (cl : Nat → Nat) (hc : CoX M cl) : CtP mX0_unsureInAllFogs [.ref 80, .ref L] sh Mr M (nI (smN (fun f => o.2.1.1 - cnt (sur cl o.2.1 f) o.2.1.1) 4)) := by
  have h5 := ho.2.1.2.1
  refine ct_of (mi := mX0_unsureInAllFogs) (ls := [some (.ref 80), some (.ref L), none, none]) rfl rfl (Nat.le_of_ble_eq_true rfl) rfl ?_
  refine (ex_iconst (v := nI 0) dX0_unsureInAllFogs_0 rfl (ex_is2 dX0_unsureInAllFogs_1 (Nat.le_of_ble_eq_true rfl) rfl (ex_iconst (v := nI 0) dX0_unsureInAllFogs_2 rfl (ex_is3 dX0_unsureInAllFogs_3 (Nat.le_of_ble_eq_true rfl) rfl ?_))))
  refine ex_for (I := fun k ls M' => ls = [some (.ref 80), some (.ref L), some (.int (nI (smN (fun f => o.2.1.1 - cnt (sur cl o.2.1 f) o.2.1.1) k))), some (.int (nI k))] ∧ M' = M) 4 ?_ ?_ 0 _ _ (Nat.zero_le _) ⟨rfl, rfl⟩
  · intro k ls M' hk h ih
    obtain ⟨rfl, rfl⟩ := h
    refine (ex_il3 dX0_unsureInAllFogs_4 (ex_iconst (v := nI 4) dX0_unsureInAllFogs_5 rfl (ex_icmp_geN (tgt := 32) dX0_unsureInAllFogs_6 rfl (by omega) (by omega) (fun c6 => (absurd c6 (by omega))) (fun c6 => (ex_il2 dX0_unsureInAllFogs_9 (ex_al1 dX0_unsureInAllFogs_10 (ex_getI dX0_unsureInAllFogs_11 flX0_58 (la_sh (laL hG)) (ex_top (ho.2.1.1) (ex_al0 dX0_unsureInAllFogs_14 (ex_al1 dX0_unsureInAllFogs_15 (ex_il3 dX0_unsureInAllFogs_16 (ex_VP2 dX0_unsureInAllFogs_17 lkX0_68 (gx80 hG) ⟨_, _, rfl⟩ ⟨(Nat.le_of_ble_eq_true rfl), (Nat.le_of_ble_eq_true rfl)⟩ ⟨Nat.le_refl _, Nat.le_refl _⟩ (Nat.le_of_ble_eq_true rfl) (x_sureShips hG M' o ho cl hc k hk) (ex_SP1 dX0_unsureInAllFogs_20 lkX0_72 ⟨(Nat.le_of_ble_eq_true rfl), (Nat.le_of_ble_eq_true rfl)⟩ ⟨Nat.le_refl _, Nat.le_refl _⟩ (Nat.le_of_ble_eq_true rfl) (x_bcs _ _ (by omega) _ _ _) (ex_isubN dX0_unsureInAllFogs_23 (cnt_le _ _) (ex_iaddN dX0_unsureInAllFogs_24 (ex_is2 dX0_unsureInAllFogs_25 (Nat.le_of_ble_eq_true rfl) rfl (ex_inc3 dX0_unsureInAllFogs_26 (Nat.le_of_ble_eq_true rfl) rfl (inc1 _) (ex_goto (tgt := 4) dX0_unsureInAllFogs_29 rfl ?_))))))))))))))))))
    exact ih _ _ ⟨rfl, rfl⟩
  · intro ls M' h
    obtain ⟨rfl, rfl⟩ := h
    refine (ex_il3 dX0_unsureInAllFogs_4 (ex_iconst (v := nI 4) dX0_unsureInAllFogs_5 rfl (ex_icmp_geN (tgt := 32) dX0_unsureInAllFogs_6 rfl (by omega) (by omega) (fun c6 => (ex_il2 dX0_unsureInAllFogs_32 (ex_ri dX0_unsureInAllFogs_33 rfl rfl (⟨rfl, rfl⟩)))) (fun c6 => (absurd (Nat.le_refl 4) c6)))))
/-! the class: looks -/
def LkX (M : MM) (l : Lk) : Prop := M 77 2 = nI l.1 ∧ l.1 ≤ 8 ∧ ∀ k, k < l.1 → M 78 k = nI (l.2.1 k) ∧ M 79 k = nI (l.2.2 k) ∧ l.2.1 k < 24 ∧ l.2.2 k ≤ 4
theorem LkX.of {M M' : MM} {l : Lk} (h : LkX M l) (hc : ∀ c, 77 ≤ c → c ≤ 79 → M' c = M c) : LkX M' l := by
  unfold LkX
  rw [hc 77 (by omega) (by omega), hc 78 (by omega) (by omega), hc 79 (by omega) (by omega)]
  exact h
theorem x_looked {sh : Sh} {Mr : MR} {L D : Nat} (hG : GX sh Mr L D) (M : MM) (l : Lk) (hl : LkX M l) (s c : Nat) (hs : s < 24) (hc : c ≤ 4) : CtI mX3_append [.ref 77, .int (nI s), .int (nI c)] sh Mr M (fun v M' => v = bI (!decide (l.1 = 8)) ∧ (∀ c, c < 77 ∨ 79 < c → M' c = M c) ∧ LkX M' (if l.1 = 8 then l else (l.1 + 1, (fun k => if k = l.1 then s else l.2.1 k), fun k => if k = l.1 then c else l.2.2 k))) := by
  have h8 := hl.2.1
  refine ct_of (mi := mX3_append) (ls := [some (.ref 77), some (.int (nI s)), some (.int (nI c))]) rfl rfl (Nat.le_of_ble_eq_true rfl) rfl ?_
  refine (ex_al0 dX3_append_0 (ex_getI dX3_append_1 flX3_18 (gx77 hG) (ex_top (hl.1) (ex_bipush (v := nI 8) dX3_append_4 rfl (ex_icmp_ltN (tgt := 11) dX3_append_6 rfl (by omega) (by omega) (fun c6 => ?_) (fun c6 => ?_))))))
  · refine (ex_al0 dX3_append_11 (ex_getR dX3_append_12 flX3_9 (gx77 hG) (gr77_0 hG) (ex_al0 dX3_append_15 (ex_getI dX3_append_16 flX3_18 (gx77 hG) (ex_top (hl.1) (ex_il1 dX3_append_19 (ex_istN dX3_append_20 (gx78 hG) (by omega) (by omega) (ex_al0 dX3_append_21 (ex_getR dX3_append_22 flX3_15 (gx77 hG) (gr77_1 hG) (ex_al0 dX3_append_25 (ex_getI dX3_append_26 flX3_18 (gx77 hG) (ex_top (y := nI ((l.1))) (by rw [wr_oc (by omega)]; exact hl.1) (ex_il2 dX3_append_29 (ex_istN dX3_append_30 (gx79 hG) (by omega) (by omega) (ex_al0 dX3_append_31 (ex_dupR dX3_append_32 (ex_getI dX3_append_33 flX3_18 (gx77 hG) (ex_top (y := nI ((l.1))) (by rw [wr_oc (by omega), wr_oc (by omega)]; exact hl.1) (ex_iconst (v := nI 1) dX3_append_36 rfl (ex_iaddN dX3_append_37 (ex_putI dX3_append_38 (fpX3_18 _) (gx77 hG) (ex_iconst (v := nI 1) dX3_append_41 rfl (ex_ri dX3_append_42 rfl rfl ?_)))))))))))))))))))))))
    refine ⟨bI_tt (by simp; omega), fun c hc => by rw [wr_oc (by omega), wr_oc (by omega), wr_oc (by omega)], ?_⟩
    rw [if_neg (by omega)]
    refine ⟨wr_s, by show l.1 + 1 ≤ 8; omega, fun k hk => ?_⟩
    have hk : k < l.1 + 1 := hk
    by_cases e : k = l.1
    · subst e
      simp [wr]
      omega
    · simp only [if_neg e]
      rw [wr_oc (by omega), wr_oc (by omega), wr_oi e, wr_oc (by omega), wr_oi e, wr_oc (by omega)]
      exact hl.2.2 k (by omega)
  · refine (ex_iconst (v := nI 0) dX3_append_9 rfl (ex_ri dX3_append_10 rfl rfl ?_))
    refine ⟨bI_ff (by simp; omega), fun _ _ => rfl, ?_⟩
    rw [if_pos (by omega)]
    exact hl
theorem x_fit {sh : Sh} {Mr : MR} {L D : Nat} (hG : GX sh Mr L D) (M : MM) (l : Lk) (hl : LkX M l) (cl : Nat → Nat) (hc : CoX M cl) (h4 : ∀ s, cl s ≤ 4) : CtP mX3_fit [.ref 77, .ref 80] sh Mr M (bI (allb (fun k => decide (cl (l.2.1 k) = l.2.2 k)) l.1)) := by
  have h8 := hl.2.1
  refine ct_of (mi := mX3_fit) (ls := [some (.ref 77), some (.ref 80), none]) rfl rfl (Nat.le_of_ble_eq_true rfl) rfl ?_
  refine (ex_iconst (v := nI 0) dX3_fit_0 rfl (ex_is2 dX3_fit_1 (Nat.le_of_ble_eq_true rfl) rfl ?_))
  refine ex_for (I := fun k ls M' => ls = [some (.ref 77), some (.ref 80), some (.int (nI k))] ∧ (∀ j, j < k → decide (cl (l.2.1 j) = l.2.2 j) = true) ∧ M' = M) l.1 ?_ ?_ 0 _ _ (Nat.zero_le _) ⟨rfl, fun j hj => by omega, rfl⟩
  · intro k ls M' hk h ih
    obtain ⟨rfl, f1, rfl⟩ := h
    obtain ⟨g1, g2, g3, g4⟩ := hl.2.2 k hk
    have h4k := h4 (l.2.1 k)
    refine (ex_il2 dX3_fit_2 (ex_al0 dX3_fit_3 (ex_getI dX3_fit_4 flX3_18 (gx77 hG) (ex_top (hl.1) (ex_icmp_geN (tgt := 37) dX3_fit_7 rfl (by omega) (by omega) (fun c7 => (absurd c7 (by omega))) (fun c7 => (ex_al1 dX3_fit_10 (ex_al0 dX3_fit_11 (ex_getR dX3_fit_12 flX3_9 (gx77 hG) (gr77_0 hG) (ex_il2 dX3_fit_15 (ex_ildN dX3_fit_16 (gx78 hG) (by omega) (by omega) (ex_top (g1) (ex_VP1 dX3_fit_17 lkX3_22 (gx80 hG) ⟨_, _, rfl⟩ ⟨(Nat.le_of_ble_eq_true rfl), (Nat.le_of_ble_eq_true rfl)⟩ ⟨Nat.le_refl _, Nat.le_refl _⟩ (Nat.le_of_ble_eq_true rfl) (x_colourAt hG M' cl hc _ g3 h4k) (ex_al0 dX3_fit_20 (ex_getR dX3_fit_21 flX3_15 (gx77 hG) (gr77_1 hG) (ex_il2 dX3_fit_24 (ex_ildN dX3_fit_25 (gx79 hG) (by omega) (by omega) (ex_top (g2) (ex_icmp_eqN (tgt := 31) dX3_fit_26 rfl (by omega) (by omega) (fun c26 => ?_) (fun c26 => ?_))))))))))))))))))))
    · refine (ex_inc2 dX3_fit_31 (Nat.le_of_ble_eq_true rfl) rfl (inc1 _) (ex_goto (tgt := 2) dX3_fit_34 rfl ?_))
      refine ih _ _ ⟨rfl, fun j hj => ?_, rfl⟩
      by_cases e : j = k
      · subst e; simp [c26]
      · exact f1 j (by omega)
    · refine (ex_iconst (v := nI 0) dX3_fit_29 rfl (ex_ri dX3_fit_30 rfl rfl ?_))
      refine ⟨bI_ff ?_, rfl⟩
      cases ha : allb (fun k => decide (cl (l.2.1 k) = l.2.2 k)) l.1
      · rfl
      · exact absurd (of_decide_eq_true (allb_iff.mp ha k hk)) c26
  · intro ls M' h
    obtain ⟨rfl, f1, rfl⟩ := h
    refine (ex_il2 dX3_fit_2 (ex_al0 dX3_fit_3 (ex_getI dX3_fit_4 flX3_18 (gx77 hG) (ex_top (hl.1) (ex_icmp_geN (tgt := 37) dX3_fit_7 rfl (by omega) (by omega) (fun c7 => (ex_iconst (v := nI 1) dX3_fit_37 rfl (ex_ri dX3_fit_38 rfl rfl (⟨bI_tt (allb_iff.mpr f1), rfl⟩)))) (fun c7 => (absurd (Nat.le_refl _) c7)))))))
theorem x_darkStripes {sh : Sh} {Mr : MR} {L D : Nat} (hG : GX sh Mr L D) (M : MM) (l : Lk) (hl : LkX M l) : CtI mX3_darkStripes [.ref 77] sh Mr M (fun v M' => M' = M ∧ ∀ s, s < 32 → bt v s = anyb (fun k => decide (l.2.2 k = 4) && decide (l.2.1 k = s)) l.1) := by
  have h8 := hl.2.1
  refine ct_of (mi := mX3_darkStripes) (ls := [some (.ref 77), none, none]) rfl rfl (Nat.le_of_ble_eq_true rfl) rfl ?_
  refine (ex_iconst (v := nI 0) dX3_darkStripes_0 rfl (ex_is1 dX3_darkStripes_1 (Nat.le_of_ble_eq_true rfl) rfl (ex_iconst (v := nI 0) dX3_darkStripes_2 rfl (ex_is2 dX3_darkStripes_3 (Nat.le_of_ble_eq_true rfl) rfl ?_))))
  refine ex_for (I := fun k ls M' => ∃ v, ls = [some (.ref 77), some (.int v), some (.int (nI k))] ∧ (∀ s, s < 32 → bt v s = anyb (fun k => decide (l.2.2 k = 4) && decide (l.2.1 k = s)) k) ∧ M' = M) l.1 ?_ ?_ 0 _ _ (Nat.zero_le _) ⟨nI 0, rfl, fun s _ => by rw [nI_0, b_0]; rfl, rfl⟩
  · intro k ls M' hk h ih
    obtain ⟨v, rfl, f1, rfl⟩ := h
    obtain ⟨g1, g2, g3, g4⟩ := hl.2.2 k hk
    have hs : ∀ s, anyb (fun k => decide (l.2.2 k = 4) && decide (l.2.1 k = s)) (k + 1) = (anyb (fun k => decide (l.2.2 k = 4) && decide (l.2.1 k = s)) k || (decide (l.2.2 k = 4) && decide (l.2.1 k = s))) := fun s => rfl
    refine (ex_il2 dX3_darkStripes_4 (ex_al0 dX3_darkStripes_5 (ex_getI dX3_darkStripes_6 flX3_18 (gx77 hG) (ex_top (hl.1) (ex_icmp_geN (tgt := 39) dX3_darkStripes_9 rfl (by omega) (by omega) (fun c9 => (absurd c9 (by omega))) (fun c9 => (ex_al0 dX3_darkStripes_12 (ex_getR dX3_darkStripes_13 flX3_15 (gx77 hG) (gr77_1 hG) (ex_il2 dX3_darkStripes_16 (ex_ildN dX3_darkStripes_17 (gx79 hG) (by omega) (by omega) (ex_top (g2) (ex_iconst (v := nI 4) dX3_darkStripes_18 rfl (ex_icmp_neN (tgt := 33) dX3_darkStripes_19 rfl (by omega) (by omega) (fun c19 => ?_) (fun c19 => ?_))))))))))))))
    · refine (ex_inc2 dX3_darkStripes_33 (Nat.le_of_ble_eq_true rfl) rfl (inc1 _) (ex_goto (tgt := 4) dX3_darkStripes_36 rfl ?_))
      refine ih _ _ ⟨v, rfl, fun s h => ?_, rfl⟩
      rw [hs, f1 s h]
      simp [c19]
    · refine (ex_il1 dX3_darkStripes_22 (ex_iconst (v := nI 1) dX3_darkStripes_23 rfl (ex_al0 dX3_darkStripes_24 (ex_getR dX3_darkStripes_25 flX3_9 (gx77 hG) (gr77_0 hG) (ex_il2 dX3_darkStripes_28 (ex_ildN dX3_darkStripes_29 (gx78 hG) (by omega) (by omega) (ex_top (g1) (ex_ishl dX3_darkStripes_30 (ex_ior dX3_darkStripes_31 (ex_is1 dX3_darkStripes_32 (Nat.le_of_ble_eq_true rfl) rfl (ex_inc2 dX3_darkStripes_33 (Nat.le_of_ble_eq_true rfl) rfl (inc1 _) (ex_goto (tgt := 4) dX3_darkStripes_36 rfl ?_))))))))))))
      refine ih _ _ ⟨_, rfl, fun s h => ?_, rfl⟩
      rw [hs, b_or, f1 s h, one_shl (by omega) h, c19]
      simp
      congr 1
      exact decide_eq_decide.mpr ⟨fun h => h.symm, fun h => h.symm⟩
  · intro ls M' h
    obtain ⟨v, rfl, f1, rfl⟩ := h
    refine (ex_il2 dX3_darkStripes_4 (ex_al0 dX3_darkStripes_5 (ex_getI dX3_darkStripes_6 flX3_18 (gx77 hG) (ex_top (hl.1) (ex_icmp_geN (tgt := 39) dX3_darkStripes_9 rfl (by omega) (by omega) (fun c9 => (ex_il1 dX3_darkStripes_39 (ex_ri dX3_darkStripes_40 rfl rfl (⟨rfl, f1⟩)))) (fun c9 => (absurd (Nat.le_refl _) c9)))))))
