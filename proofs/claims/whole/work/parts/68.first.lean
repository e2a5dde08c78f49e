/-! the first text; the class's constructor -/
def tx0T : Nat → Int32 := fun k => txB.getD k 0
def vL (l : List Nat) : Nat → Nat := fun k => l.getD k 0
def rIT : Rd := addT (addT (addT (addT (addT rd0 (vL [0, 0, 6, 5, 0])) (vL [1, 6, 4, 3, 1])) (vL [2, 9, 5, 8, 2])) (vL [3, 16, 6, 1, 0])) (vL [1, 20, 2, 2, 3])
def rI : Rd := addS (addS (addS (addS rIT (vL [0, 6])) (vL [8, 4])) (vL [15, 5])) (vL [22, 4])
/-- alike where they are looked at -/
def rdE (r q : Rd) : Prop := r.1.1.1 = q.1.1.1 ∧ (∀ i, i < q.1.1.1 → r.1.1.2.1 i = q.1.1.2.1 i ∧ r.1.1.2.2.1 i = q.1.1.2.2.1 i ∧ r.1.1.2.2.2 i = q.1.1.2.2.2 i ∧ r.2.1 i = q.2.1 i ∧ r.2.2 i = q.2.2 i) ∧ r.1.2.1.1 = q.1.2.1.1 ∧ (∀ k, k < q.1.2.1.1 → r.1.2.1.2.1 k = q.1.2.1.2.1 k ∧ r.1.2.1.2.2 k = q.1.2.1.2.2 k) ∧ (∀ f, f < 4 → r.1.2.2.1 f = q.1.2.2.1 f) ∧ r.1.2.2.2 = q.1.2.2.2
theorem rI_prs : (prs (90, tx0T) 200 0 rd0).1 = -4 ∧ rdE (prs (90, tx0T) 200 0 rd0).2 rI := by
  refine ⟨by decide +kernel, by decide +kernel, ?_, by decide +kernel, ?_, by decide +kernel, by decide +kernel⟩
  · show ∀ i, i < 5 → _
    decide +kernel
  · show ∀ k, k < 4 → _
    decide +kernel
theorem LdR.congr {M : MM} {Q : Nat} {r q : Rd} (h : LdR M Q r) (e : rdE r q) : LdR M Q q := by
  obtain ⟨⟨⟨a1, a2, a3⟩, ⟨b1, b2, b3⟩, c, d⟩, f⟩ := h
  obtain ⟨e1, e2, e3, e4, e5, e6⟩ := e
  refine ⟨⟨⟨by rw [← e1]; exact a1, by rw [← e1]; exact a2, fun i hi => ?_⟩, ⟨by rw [← e3]; exact b1, by rw [← e3]; exact b2, fun k hk => ?_⟩, fun f hf => by rw [← e5 f hf]; exact c f hf, by rw [← e6]; exact d⟩, fun i hi => ?_⟩
  · obtain ⟨k1, k2, k3, k4, k5⟩ := e2 i hi
    rw [← k1, ← k2, ← k3]
    exact a3 i (by omega)
  · obtain ⟨k1, k2⟩ := e4 k hk
    rw [← k1, ← k2]
    exact b3 k (by omega)
  · obtain ⟨k1, k2, k3, k4, k5⟩ := e2 i hi
    rw [← k4, ← k5]
    exact f i (by omega)
/-- how it begins -/
def gI : Sg := (rI.1, st0 rI, (0, fun _ => st0 rI), (0, fun _ => st0 rI), (0, fun _ => 0, fun _ => 0), (0, fun _ => 0))
theorem rI_V : rdV rI := by
  unfold rI rIT
  exact addS_V (addS_V (addS_V (addS_V (addT_V (addT_V (addT_V (addT_V (addT_V rd0_V rfl) rfl) rfl) rfl) rfl) rfl) rfl) rfl) rfl
theorem gI_V : sgV gI := by
  obtain ⟨⟨a1, a2⟩, b, c, d⟩ := rI_V
  refine ⟨⟨⟨a1, by decide, a2⟩, b, c⟩, ⟨Nat.zero_le _, fun j hj => ?_, fun i hi => ⟨?_, d i hi⟩⟩, ⟨Nat.zero_le _, fun k hk => absurd hk (Nat.not_lt_zero k)⟩, ⟨Nat.zero_le _, fun k hk => absurd hk (Nat.not_lt_zero k)⟩, ⟨Nat.zero_le _, fun k hk => absurd hk (Nat.not_lt_zero k)⟩, Nat.zero_le _, fun k hk => absurd hk (Nat.not_lt_zero k)⟩
  · show bt (nI 0) j = false
    rw [nI_0]
    exact b_0 j
  · show 0 ≤ (nI 0).toInt ∧ (nI 0).toInt ≤ 20 * ((0 : Nat) : Int)
    rw [nI_toInt (by omega)]
    omega
/-- what the class's constructor leaves -/
def QX : Option AV → Sh → MR → MM → Prop := fun r sh Mr M => r = none ∧ sh = SHX ∧ GX SHX Mr 5 15 ∧ RX M 5 gI ∧ ∀ c, 94 ≤ c → M c = fun _ => 0
theorem i8_read (M : MM) (ht : TxX M (90, tx0T)) (h0 : ∀ c, c ≠ 1 → c ≠ 2 → M c = fun _ => 0) (v1 : Option AV) : Ex mX8_init R8 (ZM (SHX.take 1) 93 719 QX) XK 93 719 159 [some (.ref 0), v1] [] SHX rX11 M := by
  have hG := gx_0
  have hL := laL hG
  refine (ex_al0 dX8_init_159 (ex_getR dX8_init_160 flX8_19 (gx0 hG) (gr0_1 hG) (ex_al0 dX8_init_163 (ex_getR dX8_init_164 flX8_10 (gx0 hG) (gr0_0 hG) (ex_al0 dX8_init_167 (ex_getR dX8_init_168 flX8_26 (gx0 hG) (gr0_2 hG) (ex_VI2 dX8_init_171 lkX8_92 (gx3 hG) ⟨_, _, rfl⟩ ⟨(Nat.le_of_ble_eq_true rfl), (Nat.le_of_ble_eq_true rfl)⟩ ⟨(Nat.le_of_ble_eq_true rfl), (Nat.le_of_ble_eq_true rfl)⟩ (Nat.le_of_ble_eq_true rfl) (x_readAll hG hL (by omega) M _ ht) (fun v1 M1 h1 => ?_))))))))
  obtain ⟨f1, f2, f3⟩ := h1
  have hr : LdR M1 5 rI := (f3 (f2.trans rI_prs.1)).congr rI_prs.2
  refine (ex_popI dX8_init_174 (ex_al0 dX8_init_175 (ex_getR dX8_init_176 flX8_10 (gx0 hG) (gr0_0 hG) (ex_iconst (v := nI 0) dX8_init_179 rfl (ex_putI dX8_init_180 (fpX8_96 _) (gx1 hG) (ex_al0 dX8_init_183 (ex_getR dX8_init_184 flX8_36 (gx0 hG) (gr0_4 hG) (ex_al0 dX8_init_187 (ex_getR dX8_init_188 flX8_26 (gx0 hG) (gr0_2 hG) (ex_VV1 dX8_init_191 lkX8_99 (sa_sh (sa25 hG)) ⟨_, _, rfl⟩ ⟨(Nat.le_of_ble_eq_true rfl), (Nat.le_of_ble_eq_true rfl)⟩ ⟨(Nat.le_of_ble_eq_true rfl), (Nat.le_of_ble_eq_true rfl)⟩ (Nat.le_of_ble_eq_true rfl) (x_begin (sa25 hG) hL (by omega) _) (fun M2 h2 => ?_)))))))))))
  obtain ⟨g1, g2, g3, g4⟩ := h2
  have hz : ∀ c, 29 ≤ c → M2 c = fun _ => 0 := fun c hc => by rw [g1 c (by omega), wr_oc (by omega), f1 c (by omega) (by omega)]; exact h0 c (by omega) (by omega)
  have hld : LdR M2 5 rI := hr.of (fun c e1 e2 => by rw [g1 c (by omega), wr_oc (by omega)])
  refine ex_vret dX8_init_194 rfl rfl ⟨rfl, rfl, hG, ⟨hld.1, ⟨g2, g3, fun i hi => ?_⟩, ⟨0, ?_, by decide, ?_, by decide, fun k hk => absurd hk (Nat.not_lt_zero k)⟩, ⟨0, ?_, by decide, ?_, by decide, fun k hk => absurd hk (Nat.not_lt_zero k)⟩, ⟨?_, by decide, fun k hk => absurd hk (Nat.not_lt_zero k)⟩, ⟨?_, by decide, fun k hk => absurd hk (Nat.not_lt_zero k)⟩⟩, fun c hc => hz c (by omega)⟩
  · have h5 : i < 5 := hi
    obtain ⟨k1, k2, k3⟩ := g4 i (by omega)
    obtain ⟨k4, k5⟩ := hld.2 i hi
    refine ⟨k1, k2.trans ?_, k3.trans ?_⟩
    · rw [← g1 7 (by omega)]; exact k4
    · rw [← g1 8 (by omega)]; exact k5
  · rw [hz 33 (by omega), nI_0]
  · rw [hz 33 (by omega)]; exact nI_0.symm
  · rw [hz 67 (by omega), nI_0]
  · rw [hz 67 (by omega)]; exact nI_0.symm
  · rw [hz 77 (by omega)]; exact nI_0.symm
  · rw [g1 1 (by omega), wr_s]; rfl
theorem i8_loop : Ex mX8_init R8 (ZM (SHX.take 1) 93 719 QX) XK 93 719 130 [some (.ref 0), some (.int (nI 0))] [] SHX rX11 M00 := by
  have hG := gx_0
  refine ex_for (I := fun i ls M => ls = [some (.ref 0), some (.int (nI i))] ∧ TxX M (i, tx0T) ∧ ∀ c, c ≠ 1 → c ≠ 2 → M c = fun _ => 0) 90 ?_ ?_ 0 _ _ (Nat.zero_le _) ⟨rfl, ⟨nI_0.symm, Nat.zero_le _, fun k hk => absurd hk (Nat.not_lt_zero k)⟩, fun _ _ _ => rfl⟩
  · intro i ls M hi h ih
    obtain ⟨rfl, ht, h0⟩ := h
    refine ex_il1 dX8_init_130 (ex_ldcS rfl dX8_init_131 (ex_callVF (As := []) (rest := [.int (nI i)]) dX8_init_133 lkX8_78 rfl (x_length 0 _ _ _) rfl rfl (Nat.le_of_ble_eq_true rfl) ⟨Nat.le_of_ble_eq_true rfl, Nat.le_of_ble_eq_true rfl⟩ ⟨Nat.le_of_ble_eq_true rfl, Nat.le_of_ble_eq_true rfl⟩ (fun r sh' Mr' M' h => ?_)))
    obtain ⟨rfl, rfl, v, rfl, rfl, rfl⟩ := h
    refine ex_icmp_geN (tgt := 159) dX8_init_136 rfl (by omega) (by omega) (fun h => absurd h (by omega)) (fun _ => ex_al0 dX8_init_139 (ex_getR dX8_init_140 flX8_10 (gx0 hG) (gr0_0 hG) (ex_ldcS rfl dX8_init_143 (ex_il1 dX8_init_145 (ex_callVF (As := [.int (nI i)]) (rest := [.ref 1]) dX8_init_146 lkX8_84 rfl (x_charAt hi 0 _ _ _) rfl rfl (Nat.le_of_ble_eq_true rfl) ⟨Nat.le_of_ble_eq_true rfl, Nat.le_of_ble_eq_true rfl⟩ ⟨Nat.le_of_ble_eq_true rfl, Nat.le_of_ble_eq_true rfl⟩ (fun r sh' Mr' M' h => ?_))))))
    obtain ⟨rfl, rfl, v, rfl, rfl, rfl⟩ := h
    refine ex_VI1 dX8_init_149 lkX8_88 (gx1 hG) ⟨_, _, rfl⟩ ⟨(Nat.le_of_ble_eq_true rfl), (Nat.le_of_ble_eq_true rfl)⟩ ⟨(Nat.le_of_ble_eq_true rfl), (Nat.le_of_ble_eq_true rfl)⟩ (Nat.le_of_ble_eq_true rfl) (x_append hG _ _ ht _) (fun v M1 h1 => ?_)
    obtain ⟨-, f1, f2⟩ := h1
    refine ex_popI dX8_init_152 (ex_inc1 dX8_init_153 (Nat.le_of_ble_eq_true rfl) rfl (inc1 _) (ex_goto (tgt := 130) dX8_init_156 rfl (ih _ _ ⟨rfl, ?_, fun c e1 e2 => (f1 c e1 e2).trans (h0 c e1 e2)⟩)))
    rw [if_neg (show ¬ i = 200 by omega)] at f2
    refine ⟨f2.1, f2.2.1, fun k hk => ?_⟩
    rw [f2.2.2 k hk]
    show (if k = i then txB.getD i 0 else tx0T k) = tx0T k
    by_cases e : k = i
    · rw [if_pos e, e]; rfl
    · rw [if_neg e]
  · intro ls M h
    obtain ⟨rfl, ht, h0⟩ := h
    refine ex_il1 dX8_init_130 (ex_ldcS rfl dX8_init_131 (ex_callVF (As := []) (rest := [.int (nI 90)]) dX8_init_133 lkX8_78 rfl (x_length 0 _ _ _) rfl rfl (Nat.le_of_ble_eq_true rfl) ⟨Nat.le_of_ble_eq_true rfl, Nat.le_of_ble_eq_true rfl⟩ ⟨Nat.le_of_ble_eq_true rfl, Nat.le_of_ble_eq_true rfl⟩ (fun r sh' Mr' M' h => ?_)))
    obtain ⟨rfl, rfl, v, rfl, rfl, rfl⟩ := h
    exact ex_icmp_geN (tgt := 159) dX8_init_136 rfl (by omega) (by omega) (fun _ => i8_read _ ht h0 _) (fun h => absurd (Nat.le_refl _) h)
theorem c_X8 : Ct mX8_init XS [.ref 0] (SHX.take 1) rX0 M00 93 719 QX := by
  refine ct_of (mi := mX8_init) (ls := [some (.ref 0), none]) rfl rfl (Nat.le_of_ble_eq_true rfl) rfl ?_
  refine ex_reb xS_K (zn_M (fun r sh Mr M h => by obtain ⟨rfl, -⟩ := h; rfl)) rfl rfl ?_
  exact ex_al0 dX8_init_0 (ex_objInit dX8_init_1 oiX8_1 oi_ins oi_code ⟨Nat.le_of_ble_eq_true rfl, Nat.le_of_ble_eq_true rfl⟩ (by decide) (i8_all (ex_iconst (v := nI 0) dX8_init_128 rfl (ex_is1 dX8_init_129 (Nat.le_of_ble_eq_true rfl) rfl i8_loop))))
