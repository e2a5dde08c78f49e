/-! the law: its loop, its start -/
theorem law_end {nm : String} {L : Nat} {xs : Nat → Int32} {i : Nat} {Mr : MR} {M : MM} : EL nm L xs 951 i [] Mr M := by
  refine ex_iconst (v := nI 1) dL_law_951 rfl ?_
  intro l E bb p e s m args below meth c F H locs lsA hP hS hl hk
  have hbb : bb.1 = s.heap.size := by
    have : SHM.length = 113 := rfl
    omega
  refine va_forget (fun q hq => by rw [← hbb]; exact hS.2.2 q hq) ?_
  refine W.widen (k := 600000) (n := 7302250) (by omega) (by omega) ?_
  exact lw_retA F.1 F.2.1 F.2.2.1 F.2.2.2.2.2.2.1 dL_law_952
theorem head_le {L i : Nat} (hL : L ≤ 320) (hi : i < 1000) (h : ¬ nI L - nI 5 < nI i) : i + 5 ≤ L := by
  by_cases h5 : 5 ≤ L
  · rw [pk_sub h5, Int32.lt_iff_toInt_lt, nI_toInt (by omega), nI_toInt (by omega)] at h
    omega
  · exfalso
    apply h
    have h0 : (nI L - nI 5).toInt < 0 := (by decide : ∀ L, L < 5 → (nI L - nI 5).toInt < 0) L (by omega)
    rw [Int32.lt_iff_toInt_lt, nI_toInt (by omega)]
    omega
theorem law_head {nm : String} {L : Nat} {xs : Nat → Int32} {i : Nat} {Mr : MR} {M : MM} (hL : L ≤ 320) (hi : i < 1000) (k : i + 5 ≤ L → EL nm L xs 26 i [] Mr M) : EL nm L xs 18 i [] Mr M :=
  ex_il3 dL_law_18 (ex_alF0 dL_law_19 (ex_slenL dL_law_20 (ex_iconst (v := nI 5) dL_law_21 rfl (ex_isub dL_law_22 (ex_icmp_gt (tgt := 951) dL_law_23 rfl (fun _ => law_end) (fun h => k (head_le hL hi h)))))))
theorem law_body {nm : String} {L : Nat} {xs : Nat → Int32} {i : Nat} {Mr : MR} {M : MM} (hL : L ≤ 320) (hi : i + 5 ≤ L) (hI : LI Mr M) (ih : ∀ Mr M, LI Mr M → EL nm L xs 945 i [] Mr M) : EL nm L xs 26 i [] Mr M := by
  obtain ⟨Lc, D, g, hG, hB, hx, hm, hv⟩ := id hI
  obtain ⟨j, hj, e⟩ := pk_andE (xs i) (m := nI 31) 5 (by decide)
  refine ex_alF0 dL_law_26 (ex_il3 dL_law_27 (ex_sldL (by omega) hL dL_law_28 (ex_bipush (v := nI 31) dL_law_29 rfl (ex_iand dL_law_31 (ex_top e ?_)))))
  have hj : j < 32 := hj
  clear e
  rcases (show j = 0 ∨ j = 1 ∨ j = 2 ∨ j = 3 ∨ j = 4 ∨ j = 5 ∨ j = 6 ∨ j = 7 ∨ j = 8 ∨ j = 9 ∨ j = 10 ∨ j = 11 ∨ j = 12 ∨ j = 13 ∨ j = 14 ∨ j = 15 ∨ j = 16 ∨ j = 17 ∨ j = 18 ∨ j = 19 ∨ j = 20 ∨ j = 21 ∨ j = 22 ∨ j = 23 ∨ j = 24 ∨ j = 25 ∨ j = 26 ∨ j = 27 ∨ j = 28 ∨ j = 29 ∨ j = 30 ∨ j = 31 by omega) with rfl | rfl | rfl | rfl | rfl | rfl | rfl | rfl | rfl | rfl | rfl | rfl | rfl | rfl | rfl | rfl | rfl | rfl | rfl | rfl | rfl | rfl | rfl | rfl | rfl | rfl | rfl | rfl | rfl | rfl | rfl | rfl
  · exact ex_tableIn (tgt := 172) (off := 140) dL_law_32 (by decide) (by decide) (by decide) rfl (law_write hL hi hG hB hx hm hv ih)
  · exact ex_tableIn (tgt := 195) (off := 163) dL_law_32 (by decide) (by decide) (by decide) rfl (law_wipe hL hi hG hB hx hm hv ih)
  · exact ex_tableIn (tgt := 208) (off := 176) dL_law_32 (by decide) (by decide) (by decide) rfl (law_fault hL hi hG hB hx hm hv ih)
  · exact ex_tableIn (tgt := 221) (off := 189) dL_law_32 (by decide) (by decide) (by decide) rfl (law_lay hL hi hG hB hx hm hv ih)
  · exact ex_tableIn (tgt := 234) (off := 202) dL_law_32 (by decide) (by decide) (by decide) rfl (law_tenant hL hi hG hB hx hm hv ih)
  · exact ex_tableIn (tgt := 267) (off := 235) dL_law_32 (by decide) (by decide) (by decide) rfl (law_ship hL hi hG hB hx hm hv ih)
  · exact ex_tableIn (tgt := 300) (off := 268) dL_law_32 (by decide) (by decide) (by decide) rfl (law_stripe hL hi hG hB hx hm hv ih)
  · exact ex_tableIn (tgt := 333) (off := 301) dL_law_32 (by decide) (by decide) (by decide) rfl (law_pass hL hi hG hB hx hm hv ih)
  · exact ex_tableIn (tgt := 356) (off := 324) dL_law_32 (by decide) (by decide) (by decide) rfl (law_pay hL hi hG hB hx hm hv ih)
  · exact ex_tableIn (tgt := 389) (off := 357) dL_law_32 (by decide) (by decide) (by decide) rfl (law_change hL hi hG hB hx hm hv ih)
  · exact ex_tableIn (tgt := 422) (off := 390) dL_law_32 (by decide) (by decide) (by decide) rfl (law_smoke hL hi hG hB hx hm hv ih)
  · exact ex_tableIn (tgt := 445) (off := 413) dL_law_32 (by decide) (by decide) (by decide) rfl (law_undo hL hi hG hB hx hm hv ih)
  · exact ex_tableIn (tgt := 458) (off := 426) dL_law_32 (by decide) (by decide) (by decide) rfl (law_seen hL hi hG hB hx hm hv ih)
  · exact ex_tableIn (tgt := 491) (off := 459) dL_law_32 (by decide) (by decide) (by decide) rfl (law_sign hL hi hG hB hx hm hv ih)
  · exact ex_tableIn (tgt := 524) (off := 492) dL_law_32 (by decide) (by decide) (by decide) rfl (law_fleet hL hi hG hB hx hm hv ih)
  · exact ex_tableIn (tgt := 547) (off := 515) dL_law_32 (by decide) (by decide) (by decide) rfl (law_order hL hi hG hB hx hm hv ih)
  · exact ex_tableIn (tgt := 570) (off := 538) dL_law_32 (by decide) (by decide) (by decide) rfl (law_needed hL hi hG hB hx hm hv ih)
  · exact ex_tableIn (tgt := 593) (off := 561) dL_law_32 (by decide) (by decide) (by decide) rfl (law_least hL hi hG hB hx hm hv ih)
  · exact ex_tableIn (tgt := 616) (off := 584) dL_law_32 (by decide) (by decide) (by decide) rfl (law_rock hL hi hG hB hx hm hv ih)
  · exact ex_tableIn (tgt := 639) (off := 607) dL_law_32 (by decide) (by decide) (by decide) rfl (law_row hL hi hG hB hx hm hv ih)
  · exact ex_tableIn (tgt := 692) (off := 660) dL_law_32 (by decide) (by decide) (by decide) rfl (law_look hL hi hG hB hx hm hv ih)
  · exact ex_tableIn (tgt := 725) (off := 693) dL_law_32 (by decide) (by decide) (by decide) rfl (law_forget hL hi hG hB hx hm hv ih)
  · exact ex_tableIn (tgt := 738) (off := 706) dL_law_32 (by decide) (by decide) (by decide) rfl (law_behind hL hi hG hB hx hm hv ih)
  · exact ex_tableIn (tgt := 761) (off := 729) dL_law_32 (by decide) (by decide) (by decide) rfl (law_panes hL hi hG hB hx hm hv ih)
  · exact ex_tableIn (tgt := 774) (off := 742) dL_law_32 (by decide) (by decide) (by decide) rfl (law_odds hL hi hG hB hx hm hv ih)
  · exact ex_tableIn (tgt := 807) (off := 775) dL_law_32 (by decide) (by decide) (by decide) rfl (law_mean hL hi hG hB hx hm hv ih)
  · exact ex_tableIn (tgt := 830) (off := 798) dL_law_32 (by decide) (by decide) (by decide) rfl (law_owed hL hi hG hB hx hm hv ih)
  · exact ex_tableIn (tgt := 853) (off := 821) dL_law_32 (by decide) (by decide) (by decide) rfl (law_weeks hL hi hG hB hx hm hv ih)
  · exact ex_tableIn (tgt := 896) (off := 864) dL_law_32 (by decide) (by decide) (by decide) rfl (law_keep hL hi hG hB hx hm hv ih)
  · exact ex_tableIn (tgt := 909) (off := 877) dL_law_32 (by decide) (by decide) (by decide) rfl (law_back hL hi hG hB hx hm hv ih)
  · exact ex_tableIn (tgt := 922) (off := 890) dL_law_32 (by decide) (by decide) (by decide) rfl (law_count hL hi hG hB hx hm hv ih)
  · exact ex_tableOut (tgt := 945) dL_law_32 (Or.inr (by decide)) rfl (ih _ _ hI)
theorem law_loop {nm : String} {L : Nat} {xs : Nat → Int32} (hL : L ≤ 320) : ∀ (n i : Nat) (Mr : MR) (M : MM), i < 400 → L ≤ i + n → LI Mr M → EL nm L xs 18 i [] Mr M := by
  intro n
  induction n with
  | zero => intro i Mr M hi hn hI; exact law_head hL (by omega) (fun h => by omega)
  | succ n ih =>
    intro i Mr M hi hn hI
    refine law_head hL (by omega) (fun h => law_body hL h hI (fun Mr' M' hI' => ?_))
    exact ex_inc3 dL_law_945 (Nat.le_of_ble_eq_true rfl) rfl (show nI i + Int32.ofInt 5 = nI (i + 5) from (by rw [show Int32.ofInt 5 = nI 5 from rfl, nI_add])) (ex_goto (tgt := 18) dL_law_948 rfl (ih (i + 5) Mr' M' (by omega) (by omega) hI'))
theorem mrt_94 : ∀ q ∈ MRT, q.1 < 94 := by decide
theorem gx_up {Mr Mr1 : MR} {Lc D : Nat} (hG : GX SHX Mr Lc D) (e : ∀ c, c < 94 → Mr1 c = Mr c) : GX SHM Mr1 Lc D := by
  refine ⟨fun c q h => app_at h, fun i c k a h => ?_, ?_, ?_, hG.2.2.2.2⟩
  · rw [e c (mrt_94 _ (List.mem_of_getElem? h))]
    exact hG.2.1 i c k a h
  · rw [e 0 (by decide)]; exact hG.2.2.1
  · rw [e 0 (by decide)]; exact hG.2.2.2.1
theorem law_start {nm : String} {L : Nat} {xs : Nat → Int32} (hL : L ≤ 320) : Ex (mLw nm) room_1 ZL (XL L xs) 0 0 0 [some (.float 0), none, none, none] [] [] Mr00 M00 := by
  refine ex_newN (N := 0) (w := 11) dL_law_0 ncL_7 rfl rfl (z00 _) ⟨(Nat.le_of_ble_eq_true rfl), (Nat.le_of_ble_eq_true rfl)⟩ (ex_dupR dL_law_3 (ex_eq (sh' := SHX.take 1) (Mr' := rX0) rfl rfl rfl rfl (ex_callI (As := []) (rest := [.ref 0]) dL_law_4 lkL_9 rfl xm_LS c_X8 rfl rfl (Nat.le_of_ble_eq_true rfl) ⟨(Nat.le_of_ble_eq_true rfl), (Nat.le_of_ble_eq_true rfl)⟩ ⟨(Nat.le_of_ble_eq_true rfl), (Nat.le_of_ble_eq_true rfl)⟩ (fun r sh1 Mr1 M1 h1 => ?_))))
  obtain ⟨rfl, rfl, hG, hx, hz⟩ := h1
  refine ex_as1 dL_law_7 (Nat.le_of_ble_eq_true rfl) rfl (ex_newN (N := 94) (w := 30) dL_law_8 ncL_10 rfl rfl hz ⟨(Nat.le_of_ble_eq_true rfl), (Nat.le_of_ble_eq_true rfl)⟩ (ex_dupR dL_law_11 (ex_callI (As := []) (rest := [.ref 94]) dL_law_12 lkL_12 rfl xm_tr (c_X9 _ _ hz) rfl rfl (Nat.le_of_ble_eq_true rfl) ⟨(Nat.le_of_ble_eq_true rfl), (Nat.le_of_ble_eq_true rfl)⟩ ⟨(Nat.le_of_ble_eq_true rfl), (Nat.le_of_ble_eq_true rfl)⟩ (fun r sh2 Mr2 M2 h2 => ?_))))
  obtain ⟨rfl, rfl, hB, e2, hm, u2⟩ := h2
  have e3 : ∀ c, c < 94 → Mr2 c = Mr1 c := fun c hc => by
    rw [e2 c hc]
    funext j
    simp [clrR, Nat.ne_of_lt hc]
  have hG2 := gx_up hG e3
  exact ex_as2 dL_law_15 (Nat.le_of_ble_eq_true rfl) rfl (ex_iconst (v := nI 0) dL_law_16 rfl (ex_is3 dL_law_17 (Nat.le_of_ble_eq_true rfl) rfl (law_loop hL L 0 _ _ (by decide) (by omega) ⟨5, 15, gI, hG2, hB, rx_keep hG2 hx u2, hm, gI_V⟩)))
