/-! a valid state stays valid -/
theorem nI_ex {a : Int32} (h : 0 ≤ a.toInt) : ∃ n : Nat, n < 2 ^ 31 ∧ (n : Int) = a.toInt ∧ a = nI n := by
  have hb : a.toInt < 2 ^ 31 := Int32.toInt_lt a
  refine ⟨a.toInt.toNat, by omega, by omega, ?_⟩
  apply Int32.toInt_inj.mp
  rw [nI_toInt (by omega)]
  omega
theorem inB_w {v : Int32} {a b : Nat} (ha : a < 2 ^ 31) (hb : b < 2 ^ 31) (h : inB v (nI a) (nI b) = true) : ∃ j, a ≤ j ∧ j ≤ b ∧ v = nI j := by
  have h2 := h
  simp only [inB, Bool.and_eq_true, decide_eq_true_eq] at h2
  have h3 : inB v (nI 0) (nI b) = true := by
    simp only [inB, Bool.and_eq_true, decide_eq_true_eq]
    refine ⟨Int32.le_trans ?_ h2.1, h2.2⟩
    rw [Int32.le_iff_toInt_le, nI_toInt (by omega), nI_toInt ha]
    omega
  obtain ⟨j, hj, rfl⟩ := inB_nat hb h3
  rw [inB_nI (by omega) ha hb] at h
  simp at h
  exact ⟨j, h.1, h.2, rfl⟩
theorem goBy_V {o : To} {x : St} {k : Nat} (ho : toV o) (hx : stV o.1.1 x) (hk : x.1 + k ≤ 999) : stV o.1.1 (goBy o x k) := by
  obtain ⟨h1, h2, h3⟩ := hx
  refine ⟨hk, h2, fun i hi => ?_⟩
  obtain ⟨⟨a1, a2⟩, b⟩ := h3 i hi
  obtain ⟨-, ⟨r1, r2⟩, -⟩ := ho.1.2.2 i hi
  refine ⟨?_, b⟩
  obtain ⟨a, la, ea, ea2⟩ := nI_ex a1
  obtain ⟨r, lr, er, er2⟩ := nI_ex r1
  have e : (goBy o x k).2.2.1 i = nI (a + k * r) := by
    show x.2.2.1 i + nI k * o.1.2.2.1 i = _
    rw [ea2, er2, pk_mul, nI_add]
  have hm : k * r ≤ k * 20 := Nat.mul_le_mul_left k (by omega)
  have e1 : (goBy o x k).1 = x.1 + k := rfl
  rw [e, nI_toInt (by omega), e1]
  constructor
  · omega
  · push_cast
    omega
theorem rem_V {n : Nat} {u : Pk} {x : St} (hu : u.1 ≤ 8 ∧ ∀ k, k < u.1 → stV n (u.2 k)) (hx : stV n x) : (rem u x).1 ≤ 8 ∧ ∀ k, k < (rem u x).1 → stV n ((rem u x).2 k) := by
  unfold rem
  split
  · rename_i h8
    refine ⟨Nat.le_refl 8, fun k hk => ?_⟩
    have hk : k < 8 := hk
    show stV n (if k = 7 then x else u.2 (k + 1))
    split
    · exact hx
    · exact hu.2 _ (by omega)
  · rename_i h8
    refine ⟨?_, fun k hk => ?_⟩
    · show u.1 + 1 ≤ 8
      have := hu.1
      omega
    · have hk : k < u.1 + 1 := hk
      show stV n (if k = u.1 then x else u.2 k)
      split
      · exact hx
      · exact hu.2 _ (by omega)
theorem act_V {g : Sg} (hv : sgV g) {x : St} (hx : stV g.1.1.1 x) : sgV (act g x) := ⟨hv.1, hx, rem_V hv.2.2.1 hv.2.1, hv.2.2.2⟩
theorem v_write {g : Sg} (hv : sgV g) (l : Int32) : sgV (d_write g l).2 := by
  unfold d_write
  split
  · rename_i h
    split
    · exact hv
    · rename_i h2
      obtain ⟨a, b, c, d, e, f1, f2⟩ := hv
      refine ⟨a, b, c, d, e, ?_, fun k hk => ?_⟩
      · show g.2.2.2.2.2.1 + 1 ≤ 200
        omega
      · have hk : k < g.2.2.2.2.2.1 + 1 := hk
        show 32 ≤ (if k = g.2.2.2.2.2.1 then l else g.2.2.2.2.2.2 k).toInt ∧ (if k = g.2.2.2.2.2.1 then l else g.2.2.2.2.2.2 k).toInt ≤ 126
        split
        · obtain ⟨j, j1, j2, rfl⟩ := inB_w (by decide) (by decide) h
          rw [nI_toInt (by omega)]
          omega
        · exact f2 k (by omega)
  · exact hv
theorem v_wipe {g : Sg} (hv : sgV g) : sgV (d_wipe g).2 := by
  obtain ⟨a, b, c, d, e, f1, f2⟩ := hv
  exact ⟨a, b, c, d, e, Nat.zero_le _, fun k hk => absurd hk (Nat.not_lt_zero k)⟩
theorem v_forget {g : Sg} (hv : sgV g) : sgV (d_forget g).2 := by
  obtain ⟨a, b, c, d, e, f⟩ := hv
  exact ⟨a, b, c, d, ⟨Nat.zero_le _, fun k hk => absurd hk (Nat.not_lt_zero k)⟩, f⟩
theorem v_lay {g : Sg} (hv : sgV g) : sgV (d_lay g).2 := by
  unfold d_lay
  split
  · rename_i h
    have hr : rdV (prs g.2.2.2.2.2 200 0 rd0).2 := prs_V 200 0 rd0 rd0_V
    have h0 := h.2
    generalize (prs g.2.2.2.2.2 200 0 rd0).2 = r at hr h0 ⊢
    obtain ⟨⟨a1, a2⟩, b, c, d⟩ := hr
    refine ⟨⟨⟨a1, ?_, a2⟩, b, c⟩, ⟨Nat.zero_le _, fun j hj => ?_, fun i hi => ⟨?_, d i hi⟩⟩, ⟨Nat.zero_le _, fun k hk => absurd hk (Nat.not_lt_zero k)⟩, ⟨Nat.zero_le _, fun k hk => absurd hk (Nat.not_lt_zero k)⟩, ⟨Nat.zero_le _, fun k hk => absurd hk (Nat.not_lt_zero k)⟩, hv.2.2.2.2.2⟩
    · show 1 ≤ r.1.1.1
      omega
    · show bt (nI 0) j = false
      rw [nI_0]
      exact b_0 j
    · show 0 ≤ (nI 0).toInt ∧ (nI 0).toInt ≤ 20 * ((0 : Nat) : Int)
      rw [nI_toInt (by omega)]
      omega
  · exact hv
theorem v_pass {g : Sg} (hv : sgV g) (n : Int32) : sgV (d_pass g n).2 := by
  unfold d_pass
  split
  · split
    · rename_i h
      exact act_V hv (goBy_V hv.1 hv.2.1 h)
    · exact hv
  · exact hv
theorem v_pay {g : Sg} (hv : sgV g) (i r : Int32) : sgV (d_pay g i r).2 := by
  unfold d_pay
  split
  · rename_i h
    rw [Bool.and_eq_true] at h
    obtain ⟨i, hi, rfl⟩ := isT_nat hv h.1
    obtain ⟨r, r1, r2, rfl⟩ := inB_w (by decide) (by decide) h.2
    have h6 := hv.1.1.1
    rw [cN_nI (by omega)]
    refine act_V hv ?_
    obtain ⟨h1, h2, h3⟩ := hv.2.1
    refine ⟨h1, h2, fun k hk => ⟨?_, (h3 k hk).2⟩⟩
    show 0 ≤ (if k = i then less (g.2.1.2.2.1 i) (nI r) else g.2.1.2.2.1 k).toInt ∧ (if k = i then less (g.2.1.2.2.1 i) (nI r) else g.2.1.2.2.1 k).toInt ≤ 20 * (g.2.1.1 : Int)
    split
    · obtain ⟨⟨a1, a2⟩, -⟩ := h3 i hi
      obtain ⟨a, la, ea, ea2⟩ := nI_ex a1
      unfold less
      split
      · rename_i hlt
        rw [ea2, Int32.lt_iff_toInt_lt, nI_toInt (by omega), nI_toInt la] at hlt
        rw [ea2, pk_sub (by omega), nI_toInt (by omega)]
        omega
      · rw [nI_toInt (by omega)]
        omega
    · exact (h3 k hk).1
  · exact hv
theorem v_change {g : Sg} (hv : sgV g) (i j : Int32) : sgV (d_change g i j).2 := by
  unfold d_change
  split
  · rename_i h
    rw [Bool.and_eq_true, Bool.and_eq_true] at h
    obtain ⟨i, hi, rfl⟩ := isT_nat hv h.1
    obtain ⟨j, hj, rfl⟩ := isT_nat hv h.2.1
    have h6 := hv.1.1.1
    rw [cN_nI (show i < 2 ^ 31 by omega), cN_nI (show j < 2 ^ 31 by omega)]
    refine act_V hv ?_
    obtain ⟨h1, h2, h3⟩ := hv.2.1
    refine ⟨h1, h2, fun k hk => ⟨(h3 k hk).1, ?_⟩⟩
    show swp g.2.1.2.2.2.1 i j k < 24 ∧ 1 ≤ swp g.2.1.2.2.2.2 i j k ∧ swp g.2.1.2.2.2.2 i j k ≤ 12
    unfold swp
    split
    · exact (h3 i hi).2
    · split
      · exact (h3 j hj).2
      · exact (h3 k hk).2
  · exact hv
theorem v_smoke {g : Sg} (hv : sgV g) (s : Int32) : sgV (d_smoke g s).2 := by
  unfold d_smoke
  split
  · rename_i h
    obtain ⟨s, hs, rfl⟩ := isP_nat h
    refine act_V hv ?_
    obtain ⟨h1, h2, h3⟩ := hv.2.1
    refine ⟨h1, fun j hj => ?_, h3⟩
    show bt (g.2.1.2.1 ^^^ (nI 1 <<< (nI s &&& 31))) j = false
    by_cases h32 : j < 32
    · rw [b_xor, one_shl (by omega) h32, h2 j hj, decide_eq_false (by omega)]
      rfl
    · exact b_big (by omega)
  · exact hv
theorem v_undo {g : Sg} (hv : sgV g) : sgV (d_undo g).2 := by
  unfold d_undo
  split
  · exact hv
  · rename_i h
    obtain ⟨a, b, ⟨c1, c2⟩, d⟩ := hv
    refine ⟨a, c2 _ (by omega), ⟨?_, fun k hk => c2 k ?_⟩, d⟩
    · show g.2.2.1.1 - 1 ≤ 8
      omega
    · have hk : k < g.2.2.1.1 - 1 := hk
      omega
theorem v_look {g : Sg} (hv : sgV g) (s c : Int32) : sgV (d_look g s c).2 := by
  unfold d_look
  split
  · rename_i h
    rw [Bool.and_eq_true] at h
    obtain ⟨s, hs, rfl⟩ := isP_nat h.1
    obtain ⟨c, hc, rfl⟩ := isC_nat h.2
    split
    · exact hv
    · rename_i h2
      obtain ⟨a, b, c', d, ⟨e1, e2⟩, f⟩ := hv
      refine ⟨a, b, c', d, ⟨?_, fun k hk => ?_⟩, f⟩
      · show g.2.2.2.2.1.1 + 1 ≤ 8
        omega
      · have hk : k < g.2.2.2.2.1.1 + 1 := hk
        show (if k = g.2.2.2.2.1.1 then cN (nI s) else g.2.2.2.2.1.2.1 k) < 24 ∧ (if k = g.2.2.2.2.1.1 then cN (nI c) else g.2.2.2.2.1.2.2 k) ≤ 4
        by_cases e : k = g.2.2.2.2.1.1
        · rw [if_pos e, if_pos e, cN_nI (by omega), cN_nI (by omega)]
          omega
        · rw [if_neg e, if_neg e]
          exact e2 k (by omega)
  · exact hv
theorem v_keep {g : Sg} (hv : sgV g) : sgV (d_keep g).2 := by
  unfold d_keep
  split
  · exact hv
  · rename_i h
    obtain ⟨a, b, c, ⟨d1, d2⟩, e⟩ := hv
    refine ⟨a, b, c, ⟨?_, fun k hk => ?_⟩, e⟩
    · show g.2.2.2.1.1 + 1 ≤ 2
      omega
    · have hk : k < g.2.2.2.1.1 + 1 := hk
      show stV g.1.1.1 (if k = g.2.2.2.1.1 then g.2.1 else g.2.2.2.1.2 k)
      split
      · exact b
      · exact d2 k (by omega)
theorem v_back {g : Sg} (hv : sgV g) : sgV (d_back g).2 := by
  unfold d_back
  split
  · exact hv
  · rename_i h
    obtain ⟨a, b, c, ⟨d1, d2⟩, e⟩ := hv
    refine ⟨a, d2 _ (by omega), ⟨Nat.zero_le _, fun k hk => absurd hk (Nat.not_lt_zero k)⟩, ⟨?_, fun k hk => d2 k ?_⟩, e⟩
    · show g.2.2.2.1.1 - 1 ≤ 2
      omega
    · have hk : k < g.2.2.2.1.1 - 1 := hk
      omega
