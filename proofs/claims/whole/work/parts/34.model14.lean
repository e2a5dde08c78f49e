/-! the reference: order -/
def dig (n code i : Nat) : Nat := code / n ^ (n - 1 - i) % n
def isOrd (n code : Nat) : Bool := allb (fun b => anyb (fun i => decide (dig n code i = b)) n) n
/-- how many ships are sure in any fog, were the places given by w -/
def plW (x : St) (w : Nat → Nat) : Pl := (x.1, fun i => x.2.2.2.1 (w i), fun i => x.2.2.2.2 (w i))
def vO (o : To) (x : St) (w : Nat → Nat) : Nat := cnt (sur (cof o.1 (plW x w) (lit o x) (bt x.2.1)) o.2.1 3) o.2.1.1
def odF (o : To) (x : St) : Nat → Option (Nat × (Nat → Nat))
  | 0 => none
  | c + 1 => if isOrd o.1.1 c then (match odF o x c with
    | none => some (vO o x (dig o.1.1 c), dig o.1.1 c)
    | some q => if q.1 < vO o x (dig o.1.1 c) then some (vO o x (dig o.1.1 c), dig o.1.1 c) else some q) else odF o x c
def odI (r : Option (Nat × (Nat → Nat))) (i : Int32) : Int32 := match r with
  | none => -1
  | some q => if i = -1 then nI q.1 else nI (q.2 (cN i))
def d_order (g : Sg) (i : Int32) : Int32 × Sg := (if inB i (-1) (nI g.1.1.1 - nI 1) then odI (odF g.1 g.2.1 (g.1.1.1 ^ g.1.1.1)) i else -1, g)
theorem dig_lt {n code i : Nat} (h : 0 < n) : dig n code i < n := Nat.mod_lt _ h
theorem ord_mask {n code : Nat} (hn : n ≤ 6) (h0 : 0 < n) : bor (fun _ => true) (fun k => dig n code (n - 1 - k)) n = nI (2 ^ n) - nI 1 ↔ isOrd n code = true := by
  have hd : ∀ k, k < n → dig n code (n - 1 - k) < 32 := fun k _ => by have := dig_lt (code := code) (i := n - 1 - k) h0; omega
  rw [pk_sub Nat.one_le_two_pow]
  have hb : ∀ b, b < 32 → bt (nI (2 ^ n - 1)) b = decide (b < n) := fun b hb => by rw [bt_nI _ b hb, Nat.testBit_two_pow_sub_one]
  have ha : ∀ b, b < 32 → bt (bor (fun _ => true) (fun k => dig n code (n - 1 - k)) n) b = anyb (fun i => decide (dig n code i = b)) n := fun b hb' => by
    rw [bt_bor hd b hb']
    have e : ∀ p q : Bool, (p = true ↔ q = true) → p = q := fun p q h => by cases p <;> cases q <;> simp_all
    apply e
    rw [anyb_iff, anyb_iff]
    constructor
    · rintro ⟨k, hk, h⟩
      exact ⟨n - 1 - k, by omega, by simpa using h⟩
    · rintro ⟨k, hk, h⟩
      refine ⟨n - 1 - k, by omega, ?_⟩
      rw [show n - 1 - (n - 1 - k) = k by omega]
      simpa using h
  constructor
  · intro h
    unfold isOrd
    rw [allb_iff]
    intro b hb'
    rw [← ha b (by omega), h, hb b (by omega)]
    simp [hb']
  · intro h
    apply b_ext
    intro b hb'
    rw [ha b hb', hb b hb']
    by_cases hbn : b < n
    · rw [allb_iff.mp h b hbn]; simp [hbn]
    · simp only [hbn, decide_false]
      cases hq : anyb (fun i => decide (dig n code i = b)) n
      · rfl
      · obtain ⟨i, hi, h2⟩ := anyb_iff.mp hq
        have h3 : dig n code i = b := by simpa using h2
        have := dig_lt (code := code) (i := i) h0
        omega
theorem n66 {n : Nat} (hn : n ≤ 6) : n ^ n ≤ 46656 := by
  rcases (show n = 0 ∨ n = 1 ∨ n = 2 ∨ n = 3 ∨ n = 4 ∨ n = 5 ∨ n = 6 by omega) with rfl | rfl | rfl | rfl | rfl | rfl | rfl <;> decide
theorem n6k {n k : Nat} (hn : n ≤ 6) (hk : k ≤ 6) : n ^ k ≤ 46656 := Nat.le_trans (Nat.pow_le_pow_left hn k) (Nat.pow_le_pow_right (n := 6) (by decide) hk)
/-- digits of the code in the row 'order' from i on -/
def ordR (M : MM) (B n code i : Nat) : MM := fun c j => if c = B + 17 ∧ i ≤ j ∧ j < n then nI (dig n code j) else M c j
theorem m_isOrder {sh : Sh} {Mr : MR} {B : Nat} (hB : MD sh Mr B) (M : MM) (n code : Nat) (h0 : M B 0 = nI n) (hn : n ≤ 6) (hn1 : 1 ≤ n) (hc : code < 46656) : CtI mX9_isOrder [.ref B, .int (nI code)] sh Mr M (fun v M' => v = bI (isOrd n code) ∧ M' = ordR M B n code 0) := by
  refine ct_of (mi := mX9_isOrder) (ls := [some (.ref B), some (.int (nI code)), none, none, none]) rfl rfl (Nat.le_of_ble_eq_true rfl) rfl ?_
  refine (ex_il1 dX9_isOrder_0 (ex_is2 dX9_isOrder_1 (Nat.le_of_ble_eq_true rfl) rfl (ex_iconst (v := nI 0) dX9_isOrder_2 rfl (ex_is3 dX9_isOrder_3 (Nat.le_of_ble_eq_true rfl) rfl (ex_al0 dX9_isOrder_4 (ex_getI dX9_isOrder_5 flX9_85 (md_sh hB) (ex_top (h0) (ex_iconst (v := nI 1) dX9_isOrder_8 rfl (ex_isub dX9_isOrder_9 (ex_is4 dX9_isOrder_10 (Nat.le_of_ble_eq_true rfl) rfl ?_))))))))))
  refine ex_down (I := fun i ls M' => (i ≤ n ∧ ls = [some (.ref B), some (.int (nI code)), some (.int (nI (code / n ^ (n - i)))), some (.int (bor (fun _ => true) (fun k => dig n code (n - 1 - k)) (n - i))), some (.int (nI i - nI 1))]) ∧ M' = ordR M B n code i) ?_ ?_ n _ _ ⟨⟨Nat.le_refl _, by rw [Nat.sub_self]; simp [bor]⟩, ?_⟩
  · intro i ls M' h ih
    obtain ⟨⟨hi, rfl⟩, rfl⟩ := h
    have hi : i < n := hi
    rw [pk_sub (show 1 ≤ i + 1 by omega), Nat.add_sub_cancel]
    have hdiv : code / n ^ (n - (i + 1)) ≤ code := Nat.div_le_self _ _
    have hdg : dig n code i = code / n ^ (n - (i + 1)) % n := by unfold dig; rw [show n - 1 - i = n - (i + 1) by omega]
    have hdl := dig_lt (code := code) (i := i) hn1
    rw [hdg] at hdl
    have hoB : ∀ k x, wr (ordR M B n code (i + 1)) (B + 17) i x B k = M B k := fun k x => by rw [wr_oc (by omega)]; unfold ordR; rw [if_neg (by omega)]
    have ho0 : ordR M B n code (i + 1) B 0 = nI n := by unfold ordR; rw [if_neg (by omega)]; exact h0
    refine (ex_il4 dX9_isOrder_12 (ex_if_lt (tgt := 55) dX9_isOrder_14 rfl (fun c14 => (absurd c14 (nI_pos (by omega)))) (fun c14 => (ex_al0 dX9_isOrder_17 (ex_getR dX9_isOrder_18 flX9_58 (md_sh hB) (md_r28 hB) (ex_il4 dX9_isOrder_21 (ex_il2 dX9_isOrder_23 (ex_al0 dX9_isOrder_24 (ex_getI dX9_isOrder_25 flX9_85 (md_sh hB) (ex_top (ho0) (ex_iremN dX9_isOrder_28 ⟨by omega, by omega, by omega⟩ (ex_istN dX9_isOrder_29 (md_a28 hB) (by omega) (by omega) (ex_il2 dX9_isOrder_30 (ex_al0 dX9_isOrder_31 (ex_getI dX9_isOrder_32 flX9_85 (md_sh hB) (ex_top (y := nI (n)) (by rw [hoB]; exact h0) (ex_idivN dX9_isOrder_35 ⟨by omega, by omega, by omega⟩ (ex_is2 dX9_isOrder_36 (Nat.le_of_ble_eq_true rfl) rfl (ex_il3 dX9_isOrder_37 (ex_iconst (v := nI 1) dX9_isOrder_38 rfl (ex_al0 dX9_isOrder_39 (ex_getR dX9_isOrder_40 flX9_58 (md_sh hB) (md_r28 hB) (ex_il4 dX9_isOrder_43 (ex_ildN dX9_isOrder_45 (md_a28 hB) (by omega) (by omega) (ex_top (y := nI ((dig n code i))) (by rw [wr_s, hdg]) (ex_ishl dX9_isOrder_46 (ex_ior dX9_isOrder_47 (ex_is3 dX9_isOrder_48 (Nat.le_of_ble_eq_true rfl) rfl (ex_inc4 dX9_isOrder_49 (Nat.le_of_ble_eq_true rfl) rfl (dec1s i) (ex_goto (tgt := 12) dX9_isOrder_52 rfl ?_))))))))))))))))))))))))))))))
    refine ih _ _ ⟨⟨by omega, ?_⟩, ?_⟩
    · have e1 : code / n ^ (n - (i + 1)) / n = code / n ^ (n - i) := by rw [Nat.div_div_eq_div_mul, ← Nat.pow_succ, show (n - (i + 1)).succ = n - i by omega]
      have e2 : bor (fun _ => true) (fun k => dig n code (n - 1 - k)) (n - (i + 1)) ||| (nI 1 <<< (nI (dig n code i) &&& 31)) = bor (fun _ => true) (fun k => dig n code (n - 1 - k)) (n - i) := by
        have := bor_t (p := fun _ => true) (f := fun k => dig n code (n - 1 - k)) (n := n - (i + 1)) rfl
        rw [show n - 1 - (n - (i + 1)) = i by omega, show n - (i + 1) + 1 = n - i by omega] at this
        exact this
      rw [e1, e2]
    · funext c j
      rw [show ∀ (A : MM) (x : Int32), wr A (B + 17) i x c j = if c = B + 17 then (if j = i then x else A (B + 17) j) else A c j from fun _ _ => rfl]
      unfold ordR
      by_cases hcc : c = B + 17
      · subst hcc
        by_cases hj : j = i
        · subst hj; simp [hi, hdg]
        · have e : (i + 1 ≤ j ∧ j < n) ↔ (i ≤ j ∧ j < n) := by omega
          simp [hj, e]
      · simp [hcc]
  · intro ls M' h
    obtain ⟨⟨hi, rfl⟩, rfl⟩ := h
    rw [Nat.sub_zero]
    have h64 := pow6 hn
    have ho0 : ordR M B n code 0 B 0 = nI n := by unfold ordR; rw [if_neg (by omega)]; exact h0
    refine (ex_il4 dX9_isOrder_12 (ex_if_lt (tgt := 55) dX9_isOrder_14 rfl (fun c14 => (ex_il3 dX9_isOrder_55 (ex_iconst (v := nI 1) dX9_isOrder_56 rfl (ex_al0 dX9_isOrder_57 (ex_getI dX9_isOrder_58 flX9_85 (md_sh hB) (ex_top (ho0) (ex_ishl dX9_isOrder_61 (ex_top (y := nI ((2 ^ n))) (shl1 _ hn) (ex_iconst (v := nI 1) dX9_isOrder_62 rfl (ex_isub dX9_isOrder_63 (ex_icmp_ne (tgt := 71) dX9_isOrder_64 rfl (fun c64 => ?_) (fun c64 => ?_)))))))))))) (fun c14 => (absurd (by decide) c14))))
    · refine (ex_iconst (v := nI 0) dX9_isOrder_71 rfl (ex_ri dX9_isOrder_72 rfl rfl (⟨bI_ff (by cases hq : isOrd n code; rfl; exact absurd ((ord_mask hn hn1).mpr hq) c64), rfl⟩)))
    · refine (ex_iconst (v := nI 1) dX9_isOrder_67 rfl (ex_goto (tgt := 72) dX9_isOrder_68 rfl (ex_ri dX9_isOrder_72 rfl rfl (⟨bI_tt ((ord_mask hn hn1).mp c64), rfl⟩))))
  · funext c j
    unfold ordR
    rw [if_neg (by omega)]
theorem isOrd_id : ∀ n, 1 ≤ n → n ≤ 6 → ∃ c, c < n ^ n ∧ isOrd n c = true := by
  intro n h1 h2
  rcases (show n = 1 ∨ n = 2 ∨ n = 3 ∨ n = 4 ∨ n = 5 ∨ n = 6 by omega) with rfl | rfl | rfl | rfl | rfl | rfl
  · exact ⟨0, by decide +kernel, by decide +kernel⟩
  · exact ⟨1, by decide +kernel, by decide +kernel⟩
  · exact ⟨5, by decide +kernel, by decide +kernel⟩
  · exact ⟨27, by decide +kernel, by decide +kernel⟩
  · exact ⟨194, by decide +kernel, by decide +kernel⟩
  · exact ⟨1865, by decide +kernel, by decide +kernel⟩
theorem odF_some {o : To} {x : St} : ∀ {m c : Nat}, c < m → isOrd o.1.1 c = true → ∃ q, odF o x m = some q
  | 0, c, h, _ => by omega
  | m + 1, c, h, ho => by
    unfold odF
    by_cases hm : isOrd o.1.1 m = true
    · rw [if_pos hm]
      cases odF o x m with
      | none => exact ⟨_, rfl⟩
      | some q =>
        simp only
        split
        · exact ⟨_, rfl⟩
        · exact ⟨_, rfl⟩
    · rw [if_neg hm]
      have : c ≠ m := fun e => hm (e ▸ ho)
      exact odF_some (m := m) (c := c) (by omega) ho
theorem odF_v {o : To} {x : St} : ∀ {m : Nat} {q : Nat × (Nat → Nat)}, odF o x m = some q → q.1 = vO o x q.2 ∧ ∃ c, c < m ∧ isOrd o.1.1 c = true ∧ q.2 = dig o.1.1 c
  | 0, q, h => by cases h
  | m + 1, q, h => by
    unfold odF at h
    by_cases hm : isOrd o.1.1 m = true
    · rw [if_pos hm] at h
      cases hr : odF o x m with
      | none => rw [hr] at h; cases h; exact ⟨rfl, m, by omega, hm, rfl⟩
      | some r =>
        rw [hr] at h
        simp only at h
        split at h
        · cases h; exact ⟨rfl, m, by omega, hm, rfl⟩
        · cases h
          obtain ⟨a, c, b1, b2, b3⟩ := odF_v hr
          exact ⟨a, c, by omega, b2, b3⟩
    · rw [if_neg hm] at h
      obtain ⟨a, c, b1, b2, b3⟩ := odF_v h
      exact ⟨a, c, by omega, b2, b3⟩
theorem vO_le (o : To) (x : St) (w : Nat → Nat) : vO o x w ≤ o.2.1.1 := cnt_le _ _
def mny (r : Option (Nat × (Nat → Nat))) : Int32 := match r with
  | none => -1
  | some q => nI q.1
/-- the reference's loop over the codes -/
def OrM (B : Nat) (g : Sg) (r : Option (Nat × (Nat → Nat))) (M : MM) : Prop := RM B M g ∧ M (B + 14) 0 = nI g.2.1.1 ∧ M (B + 14) 1 = g.2.1.2.1 ∧ (∀ i, i < g.1.1.1 → (!bt (M B 25) i) = lit g.1 g.2.1 i) ∧ ∀ q, r = some q → ∀ j, j < g.1.1.1 → M (B + 18) j = nI (q.2 j)
theorem inB_m1n {i : Int32} {n : Nat} (hn : n < 2 ^ 31) : inB i (-1) (nI n - nI 1) = true ↔ (i = -1 ∨ ∃ j, j < n ∧ i = nI j) := by
  constructor
  · intro h
    by_cases e : i = -1
    · exact Or.inl e
    · right
      apply (inB_lt hn).mp
      unfold inB at h ⊢
      simp only [Bool.and_eq_true, decide_eq_true_eq, i_le_iff] at h ⊢
      refine ⟨?_, h.2⟩
      rw [show (nI 0).toInt = 0 by decide]
      rw [show ((-1 : Int32)).toInt = -1 by decide] at h
      have : i.toInt ≠ -1 := fun e2 => e (Int32.toInt_inj.mp (by rw [e2]; decide))
      omega
  · rintro (rfl | h)
    · unfold inB
      simp only [Bool.and_eq_true, decide_eq_true_eq, i_le_iff]
      refine ⟨Int.le_refl _, ?_⟩
      by_cases h0 : n = 0
      · subst h0; decide
      · rw [pk_sub (show 1 ≤ n by omega), nI_toInt (by omega), show ((-1 : Int32)).toInt = -1 by decide]
        omega
    · have := (inB_lt hn).mpr h
      unfold inB at this ⊢
      simp only [Bool.and_eq_true, decide_eq_true_eq, i_le_iff] at this ⊢
      refine ⟨?_, this.2⟩
      have h2 := this.1
      rw [show (nI 0).toInt = 0 by decide] at h2
      rw [show ((-1 : Int32)).toInt = -1 by decide]
      omega
