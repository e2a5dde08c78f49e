/-! String's methods, at the first text -/
abbrev CtX (ce : MI) (X : XT) (args : List AV) (sh : Sh) (Mr : MR) (M : MM) (v : Int32) : Prop := Ct ce X args sh Mr M 0 0 (QI sh Mr (fun x M' => x = v ∧ M' = M))
theorem ex_alF0 {mi : MI} {R : Room} {Z : GE → Nat × Nat → List Frame → Array Value → State → State → Prop} {X : XT} {kc ks pc : Nat} {ls : List (Option AV)} {st : List AV} {sh : Sh} {Mr : MR} {M : MM} {x : UInt32} (d : decode mi.2.1 pc = .ok (.aload_n 0, 1)) (k : Ex mi R Z X kc ks (pc + 1) (some (.float x) :: ls) (.float x :: st) sh Mr M) : Ex mi R Z X kc ks pc (some (.float x) :: ls) st sh Mr M := by
  intro l E bb p e s m args below meth c F H locs lsA hP hS hl hk
  exact lv_aload_n F.1 F.2.1 d rfl (LH_get hl (i := 0) rfl) (k l E bb p e s m args below meth c F H locs lsA hP hS hl hk)
theorem txB_c : ∀ i, i < 90 → ((txB.getD i 0 &&& nI 255).toUInt32 % 65536).toInt32 = txB.getD i 0 ∧ txB.getD i 0 &&& 255 = txB.getD i 0 := by decide +kernel
theorem txB_n {i : Nat} (hi : i < 90) : narrow .char (.int (txB.getD i 0)) = .int (txB.getD i 0) := by
  have := sc_nar (txB.getD i 0)
  rw [(txB_c i hi).2] at this
  exact this
theorem x_coder (x : UInt32) (sh : Sh) (Mr : MR) (M : MM) : CtX mJ0_coder_7d493 XK [.float x] sh Mr M (nI 0) := by
  refine ct_of (mi := mJ0_coder_7d493) (ls := [some (.float x)]) rfl rfl (Nat.le_of_ble_eq_true rfl) rfl ?_
  exact ex_gets38 rfl dJ0_coder_7d493_0 (ex_if_eqN (tgt := 13) dJ0_coder_7d493_3 rfl (by omega) (fun h => absurd h (by omega)) (fun _ => ex_alF0 dJ0_coder_7d493_6 (ex_getC rfl dJ0_coder_7d493_7 (ex_goto (tgt := 14) dJ0_coder_7d493_10 rfl (ex_iret dJ0_coder_7d493_14 rfl rfl rfl ⟨rfl, rfl, _, rfl, rfl, rfl⟩)))))
theorem x_isLatin1 (x : UInt32) (sh : Sh) (Mr : MR) (M : MM) : CtX mJ0_isLatin1_aae02 XK [.float x] sh Mr M (nI 1) := by
  refine ct_of (mi := mJ0_isLatin1_aae02) (ls := [some (.float x)]) rfl rfl (Nat.le_of_ble_eq_true rfl) rfl ?_
  exact ex_gets38 rfl dJ0_isLatin1_aae02_0 (ex_if_eqN (tgt := 17) dJ0_isLatin1_aae02_3 rfl (by omega) (fun h => absurd h (by omega)) (fun _ => ex_alF0 dJ0_isLatin1_aae02_6 (ex_getC rfl dJ0_isLatin1_aae02_7 (ex_if_neN (tgt := 17) dJ0_isLatin1_aae02_10 rfl (by omega) (fun h => absurd rfl h) (fun _ => ex_iconst (v := nI 1) dJ0_isLatin1_aae02_13 rfl (ex_goto (tgt := 18) dJ0_isLatin1_aae02_14 rfl (ex_iret dJ0_isLatin1_aae02_18 rfl rfl rfl ⟨rfl, rfl, _, rfl, rfl, rfl⟩)))))))
theorem x_length (x : UInt32) (sh : Sh) (Mr : MR) (M : MM) : CtX mJ0_length_8abf5 XK [.float x] sh Mr M (nI 90) := by
  refine ct_of (mi := mJ0_length_8abf5) (ls := [some (.float x)]) rfl rfl (Nat.le_of_ble_eq_true rfl) rfl ?_
  refine ex_alF0 dJ0_length_8abf5_0 (ex_valLen rfl dJ0_length_8abf5_1 dJ0_length_8abf5_4 (ex_alF0 dJ0_length_8abf5_5 (ex_callVF (As := []) (rest := [.int (nI 90)]) dJ0_length_8abf5_6 lkJ0_335 rfl (x_coder x sh Mr M) rfl rfl (by decide) ⟨Nat.le_of_ble_eq_true rfl, Nat.le_of_ble_eq_true rfl⟩ ⟨Nat.le_refl _, Nat.le_refl _⟩ (fun r sh' Mr' M' h => ?_))))
  obtain ⟨rfl, rfl, v, rfl, rfl, rfl⟩ := h
  exact ex_ishr dJ0_length_8abf5_9 (ex_top (y := nI 90) (by decide) (ex_iret dJ0_length_8abf5_10 rfl rfl rfl ⟨rfl, rfl, _, rfl, rfl, rfl⟩))
theorem x_checkP {i n : Nat} (hi : i < n) (hn : n < 2 ^ 31) (v : AV) (hv : nl (some v) = true) (sh : Sh) (Mr : MR) (M : MM) : CtP mJ3_checkIndex_8e157 [.int (nI i), .int (nI n), v] sh Mr M (nI i) := by
  refine ct_of (mi := mJ3_checkIndex_8e157) (ls := [some (.int (nI i)), some (.int (nI n)), some v]) rfl (by simp [hv]; exact ⟨rfl, rfl⟩) (Nat.le_of_ble_eq_true rfl) rfl ?_
  exact ex_il0 dJ3_checkIndex_8e157_0 (ex_if_lt (tgt := 9) dJ3_checkIndex_8e157_1 rfl (fun h => absurd h (nI_pos (by omega))) (fun _ => ex_il0 dJ3_checkIndex_8e157_4 (ex_il1 dJ3_checkIndex_8e157_5 (ex_icmp_ltN (tgt := 16) dJ3_checkIndex_8e157_6 rfl (by omega) hn (fun _ => ex_il0 dJ3_checkIndex_8e157_16 (ex_iret dJ3_checkIndex_8e157_17 rfl rfl rfl ⟨rfl, rfl, _, rfl, rfl, rfl⟩)) (fun h => absurd hi h)))))
theorem x_checkS {i n : Nat} (hi : i < n) (hn : n < 2 ^ 31) (sh : Sh) (Mr : MR) (M : MM) : Ct mJ0_checkIndex_df160 XV [.int (nI i), .int (nI n)] sh Mr M 0 0 (QV sh Mr (fun M' => M' = M)) := by
  refine ct_of (mi := mJ0_checkIndex_df160) (ls := [some (.int (nI i)), some (.int (nI n))]) rfl rfl (Nat.le_of_ble_eq_true rfl) rfl ?_
  refine ex_il0 dJ0_checkIndex_df160_0 (ex_il1 dJ0_checkIndex_df160_1 (ex_gets1053 rfl zn_V rfl rfl dJ0_checkIndex_df160_2 (fun v hv => ?_)))
  exact ex_SP3 dJ0_checkIndex_df160_5 lkJ0_1059 ⟨(Nat.le_of_ble_eq_true rfl), (Nat.le_of_ble_eq_true rfl)⟩ ⟨Nat.le_refl _, Nat.le_refl _⟩ (Nat.le_of_ble_eq_true rfl) (x_checkP hi hn v hv sh Mr M) (ex_popI dJ0_checkIndex_df160_8 (ex_vret dJ0_checkIndex_df160_9 rfl rfl ⟨rfl, rfl, rfl, rfl⟩))
theorem x_charAtL {i : Nat} (hi : i < 90) (x : UInt32) (sh : Sh) (Mr : MR) (M : MM) : CtX mJ1_charAt_3b067 XV [.float x, .int (nI i)] sh Mr M (txB.getD i 0) := by
  refine ct_of (mi := mJ1_charAt_3b067) (ls := [some (.float x), some (.int (nI i))]) rfl rfl (Nat.le_of_ble_eq_true rfl) rfl ?_
  refine ex_il1 dJ1_charAt_3b067_0 (ex_alF0 dJ1_charAt_3b067_1 (ex_tlenF dJ1_charAt_3b067_2 (ex_callS (As := [.int (nI i), .int (nI 90)]) (rest := []) dJ1_charAt_3b067_3 lkJ1_9 xm_VV (x_checkS hi (by decide) sh Mr M) rfl rfl (by decide) ⟨Nat.le_of_ble_eq_true rfl, Nat.le_of_ble_eq_true rfl⟩ ⟨Nat.le_refl _, Nat.le_refl _⟩ (fun r sh' Mr' M' h => ?_))))
  obtain ⟨rfl, rfl, rfl, rfl⟩ := h
  exact ex_alF0 dJ1_charAt_3b067_6 (ex_il1 dJ1_charAt_3b067_7 (ex_tbF dJ1_charAt_3b067_8 hi (ex_sipush (v := nI 255) dJ1_charAt_3b067_9 rfl (ex_iand dJ1_charAt_3b067_12 (ex_i2c dJ1_charAt_3b067_13 (txB_c i hi).1 (ex_iret dJ1_charAt_3b067_14 rfl (txB_n hi) rfl ⟨rfl, rfl, _, rfl, rfl, rfl⟩))))))
theorem x_charAt {i : Nat} (hi : i < 90) (x : UInt32) (sh : Sh) (Mr : MR) (M : MM) : CtX mJ0_charAt_5068e XK [.float x, .int (nI i)] sh Mr M (txB.getD i 0) := by
  refine ct_of (mi := mJ0_charAt_5068e) (ls := [some (.float x), some (.int (nI i))]) rfl rfl (Nat.le_of_ble_eq_true rfl) rfl ?_
  refine ex_alF0 dJ0_charAt_5068e_0 (ex_callVF (As := []) (rest := []) dJ0_charAt_5068e_1 lkJ0_492 rfl (x_isLatin1 x sh Mr M) rfl rfl (by decide) ⟨Nat.le_of_ble_eq_true rfl, Nat.le_of_ble_eq_true rfl⟩ ⟨Nat.le_refl _, Nat.le_refl _⟩ (fun r sh' Mr' M' h => ?_))
  obtain ⟨rfl, rfl, v, rfl, rfl, rfl⟩ := h
  refine ex_if_eqN (tgt := 16) dJ0_charAt_5068e_4 rfl (by omega) (fun h => absurd h (by omega)) (fun _ => ex_alF0 dJ0_charAt_5068e_7 (ex_getV (ls' := [none, some (.int (nI i))]) rfl zn_I (fun j v h => ?_) rfl dJ0_charAt_5068e_8 ?_))
  · match j, h with
    | 0, h => cases h
    | 1, h => cases h; exact ⟨rfl, rfl⟩
    | j + 2, h => simp at h
  · refine ex_il1 dJ0_charAt_5068e_11 (ex_callS (As := [.float 0, .int (nI i)]) (rest := []) dJ0_charAt_5068e_12 lkJ0_495 xm_VV (x_charAtL hi 0 _ _ _) rfl rfl (by decide) ⟨Nat.le_of_ble_eq_true rfl, Nat.le_of_ble_eq_true rfl⟩ ⟨Nat.le_refl _, Nat.le_refl _⟩ (fun r sh' Mr' M' h => ?_))
    obtain ⟨rfl, rfl, v, rfl, rfl, rfl⟩ := h
    exact ex_iret dJ0_charAt_5068e_15 rfl (txB_n hi) rfl ⟨rfl, rfl, _, rfl, rfl, rfl⟩
