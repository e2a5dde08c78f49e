/-! new cells: the constructors -/
theorem app_at {sh r : Sh} {c : Nat} {q : Nat × Nat} (h : sh[c]? = some q) : (sh ++ r)[c]? = some q := by
  rw [List.getElem?_append_left (List.getElem?_eq_some_iff.mp h).1]
  exact h
theorem at_last {sh : Sh} {q : Nat × Nat} {N : Nat} (h : sh.length = N) : (sh ++ [q])[N]? = some q := by
  subst h
  simp
/-- nothing stands from cell n on -/
def zfrom (M : MM) (n : Nat) : Prop := ∀ c, n ≤ c → M c = fun _ => 0
theorem zf_up {M : MM} {n m : Nat} (h : zfrom M n) (hm : n ≤ m) : zfrom M m := fun c hc => h c (Nat.le_trans hm hc)
theorem zf1 {M : MM} {n : Nat} (h : zfrom M n) : zfrom M (n + 1) := zf_up h (Nat.le_succ n)
theorem clr_z {M : MM} {n : Nat} (h : zfrom M n) : clr M n = M := by
  funext c j
  unfold clr
  by_cases hc : c = n
  · rw [if_pos hc, h c (by omega)]
  · rw [if_neg hc]
/-- rows made one behind the other, from cell N on, put into the fields of S -/
def alA (Mr : MR) (S : Nat) : Nat → List Nat → MR
  | _, [] => Mr
  | N, k :: r => alA (wrR (clrR Mr N) S k (some N)) S (N + 1) r
def QA (sh1 : Sh) (Mr1 : MR) (M1 : MM) : Option AV → Sh → MR → MM → Prop := fun r sh Mr M => r = none ∧ sh = sh1 ∧ Mr = Mr1 ∧ M = M1
section EXM
variable {mi : MI} {R : Room} {Z : GE → Nat × Nat → List Frame → Array Value → State → State → Prop} {X : XT} {kc ks pc : Nat} {ls : List (Option AV)} {st : List AV} {sh : Sh} {Mr : MR} {M : MM}
theorem ex_eq {kc' ks' : Nat} {sh' : Sh} {Mr' : MR} (h1 : kc = kc') (h2 : ks = ks') (h3 : sh = sh') (h4 : Mr = Mr') (k : Ex mi R Z X kc' ks' pc ls st sh' Mr' M) : Ex mi R Z X kc ks pc ls st sh Mr M := by
  subst h1; subst h2; subst h3; subst h4; exact k
theorem ex_newp {idx ci k c0 z n N : Nat} {x : Int32} (d1 : decode mi.2.1 pc = .ok (.newarray .int, 2)) (d2 : decode mi.2.1 (pc + 2) = .ok (.putfield idx, 3)) (f : FP mi.1.cls mi.1.name idx ci k true) (hs : sh[c0]? = some (ci + 3, z)) (hN : sh.length = N) (hx : x = nI n) (hn : n ≤ 1000) (hz : zfrom M N) (hf : kc + 1 ≤ R.cells ∧ ks + n ≤ R.slots) (kk : Ex mi R Z X (kc + 1) (ks + n) (pc + 2 + 3) ls st (sh ++ [(0, n)]) (wrR (clrR Mr N) c0 k (some N)) M) : Ex mi R Z X kc ks pc ls (.int x :: .ref c0 :: st) sh Mr M := by
  subst hN
  refine ex_newa d1 ar_int hx hn hf ?_
  rw [clr_z hz]
  exact ex_putR d2 f (app_at hs) kk
theorem ex_newN {idx ci N w : Nat} (d : decode mi.2.1 pc = .ok (.new idx, 3)) (hC : NC mi.1.cls idx ci) (hN : sh.length = N) (hw : (fR.getD ci []).length = w) (hz : zfrom M N) (hf : kc + 1 ≤ R.cells ∧ ks + w ≤ R.slots) (kk : Ex mi R Z X (kc + 1) (ks + w) (pc + 3) ls (.ref N :: st) (sh ++ [(ci + 3, 0)]) (clrR Mr N) M) : Ex mi R Z X kc ks pc ls st sh Mr M := by
  subst hN; subst hw
  refine ex_new d hC hf ?_
  rw [clr_z hz]
  exact kk
theorem ex_callA {ce : MI} {idx n mc ms c0 : Nat} {As rest : List AV} {sh1 : Sh} {Mr1 : MR} {M1 : MM} (d : decode mi.2.1 pc = .ok (.invokespecial idx, 3)) (hL : LKI mi.1.cls idx ce n) (hr0 : ce.2.2.2.1 = none) (hC : Ct ce XTr (.ref c0 :: As) sh Mr M mc ms (QA sh1 Mr1 M1)) (hn : As.length = n) (hst : st = As.reverse ++ .ref c0 :: rest) (hw : rest.length ≤ 4)
    (hR : ce.2.2.2.2.1 + 1 ≤ R.frames ∧ 8 + (ce.2.2.1 + 11) + ce.2.2.2.2.2 ≤ R.locals) (hf : kc + mc ≤ R.cells ∧ ks + ms ≤ R.slots) (k : Ex mi R Z X (kc + mc) (ks + ms) (pc + 3) ls rest sh1 Mr1 M1) : Ex mi R Z X kc ks pc ls st sh Mr M :=
  ex_callI d hL hr0 xm_tr hC hn hst hw hR hf (fun r sh' Mr' M' h => by obtain ⟨rfl, rfl, rfl, rfl⟩ := h; exact k)
theorem ex_aastN {c n a z i : Nat} (d : decode mi.2.1 pc = .ok (.aastore, 1)) (hs : sh[c]? = some (1, n)) (hi : i < n) (hn : n < 1000) (ha : sh[a]? = some (7 + 3, z)) (k : Ex mi R Z X kc ks (pc + 1) ls st sh (wrR Mr c i (some a)) M) : Ex mi R Z X kc ks pc ls (.ref a :: .int (nI i) :: .ref c :: st) sh Mr M := by
  refine ex_aast d hs (vp_in_nI hi (by omega)) ha ?_
  rw [nI_clamp (by omega)]
  exact k
end EXM
theorem n_X2 {sh : Sh} {Mr : MR} {M : MM} {S N z : Nat} (hs : sh[S]? = some (5, z)) (hN : sh.length = N) (hz : zfrom M N) : Ct mX2_init XTr [.ref S] sh Mr M 1 200 (QA (sh ++ [(0, 200)]) (alA Mr S N [0]) M) := by
  refine ct_of (mi := mX2_init) (ls := [some (.ref S)]) rfl rfl (Nat.le_of_ble_eq_true rfl) rfl ?_
  exact (ex_al0 dX2_init_0 (ex_objInit dX2_init_1 oiX2_3 oi_ins oi_code ⟨(Nat.le_of_ble_eq_true rfl), (Nat.le_of_ble_eq_true rfl)⟩ (by decide) (ex_al0 dX2_init_4 (ex_sipush (v := nI 200) dX2_init_5 rfl (ex_newp (N := N) dX2_init_8 dX2_init_10 fpX2_9 hs hN rfl (by decide) hz ⟨(Nat.le_of_ble_eq_true rfl), (Nat.le_of_ble_eq_true rfl)⟩ (ex_vret dX2_init_13 rfl (by simp) ⟨rfl, rfl, rfl, rfl⟩))))))
theorem n_X5 {sh : Sh} {Mr : MR} {M : MM} {S N z : Nat} (hs : sh[S]? = some (8, z)) (hN : sh.length = N) (hz : zfrom M N) : Ct mX5_init XTr [.ref S] sh Mr M 1 5 (QA (sh ++ [(0, 5)]) (alA Mr S N [0]) M) := by
  refine ct_of (mi := mX5_init) (ls := [some (.ref S)]) rfl rfl (Nat.le_of_ble_eq_true rfl) rfl ?_
  exact (ex_al0 dX5_init_0 (ex_objInit dX5_init_1 oiX5_3 oi_ins oi_code ⟨(Nat.le_of_ble_eq_true rfl), (Nat.le_of_ble_eq_true rfl)⟩ (by decide) (ex_al0 dX5_init_4 (ex_iconst (v := nI 5) dX5_init_5 rfl (ex_newp (N := N) dX5_init_6 dX5_init_8 fpX5_11 hs hN rfl (by decide) hz ⟨(Nat.le_of_ble_eq_true rfl), (Nat.le_of_ble_eq_true rfl)⟩ (ex_vret dX5_init_11 rfl (by simp) ⟨rfl, rfl, rfl, rfl⟩))))))
theorem n_X1 {sh : Sh} {Mr : MR} {M : MM} {S N z : Nat} (hs : sh[S]? = some (4, z)) (hN : sh.length = N) (hz : zfrom M N) : Ct mX1_init XTr [.ref S] sh Mr M 9 49 (QA (sh ++ [(0, 6)] ++ [(0, 6)] ++ [(0, 6)] ++ [(0, 6)] ++ [(0, 6)] ++ [(0, 5)] ++ [(0, 5)] ++ [(0, 5)] ++ [(0, 4)]) (alA Mr S N [1, 2, 3, 4, 5, 7, 8, 9, 10]) M) := by
  refine ct_of (mi := mX1_init) (ls := [some (.ref S)]) rfl rfl (Nat.le_of_ble_eq_true rfl) rfl ?_
  exact (ex_al0 dX1_init_0 (ex_objInit dX1_init_1 oiX1_3 oi_ins oi_code ⟨(Nat.le_of_ble_eq_true rfl), (Nat.le_of_ble_eq_true rfl)⟩ (by decide) (ex_al0 dX1_init_4 (ex_bipush (v := nI 6) dX1_init_5 rfl (ex_newp (N := N) dX1_init_7 dX1_init_9 fpX1_9 hs hN rfl (by decide) hz ⟨(Nat.le_of_ble_eq_true rfl), (Nat.le_of_ble_eq_true rfl)⟩ (ex_al0 dX1_init_12 (ex_bipush (v := nI 6) dX1_init_13 rfl (ex_newp (N := (N + 1)) dX1_init_15 dX1_init_17 fpX1_15 (app_at hs) (by simp [hN]) rfl (by decide) (zf1 hz) ⟨(Nat.le_of_ble_eq_true rfl), (Nat.le_of_ble_eq_true rfl)⟩ (ex_al0 dX1_init_20 (ex_bipush (v := nI 6) dX1_init_21 rfl (ex_newp (N := ((N + 1) + 1)) dX1_init_23 dX1_init_25 fpX1_18 (app_at (app_at hs)) (by simp [hN]) rfl (by decide) (zf1 (zf1 hz)) ⟨(Nat.le_of_ble_eq_true rfl), (Nat.le_of_ble_eq_true rfl)⟩ (ex_al0 dX1_init_28 (ex_bipush (v := nI 6) dX1_init_29 rfl (ex_newp (N := (((N + 1) + 1) + 1)) dX1_init_31 dX1_init_33 fpX1_21 (app_at (app_at (app_at hs))) (by simp [hN]) rfl (by decide) (zf1 (zf1 (zf1 hz))) ⟨(Nat.le_of_ble_eq_true rfl), (Nat.le_of_ble_eq_true rfl)⟩ (ex_al0 dX1_init_36 (ex_bipush (v := nI 6) dX1_init_37 rfl (ex_newp (N := ((((N + 1) + 1) + 1) + 1)) dX1_init_39 dX1_init_41 fpX1_24 (app_at (app_at (app_at (app_at hs)))) (by simp [hN]) rfl (by decide) (zf1 (zf1 (zf1 (zf1 hz)))) ⟨(Nat.le_of_ble_eq_true rfl), (Nat.le_of_ble_eq_true rfl)⟩ (ex_al0 dX1_init_44 (ex_iconst (v := nI 5) dX1_init_45 rfl (ex_newp (N := (((((N + 1) + 1) + 1) + 1) + 1)) dX1_init_46 dX1_init_48 fpX1_27 (app_at (app_at (app_at (app_at (app_at hs))))) (by simp [hN]) rfl (by decide) (zf1 (zf1 (zf1 (zf1 (zf1 hz))))) ⟨(Nat.le_of_ble_eq_true rfl), (Nat.le_of_ble_eq_true rfl)⟩ (ex_al0 dX1_init_51 (ex_iconst (v := nI 5) dX1_init_52 rfl (ex_newp (N := ((((((N + 1) + 1) + 1) + 1) + 1) + 1)) dX1_init_53 dX1_init_55 fpX1_30 (app_at (app_at (app_at (app_at (app_at (app_at hs)))))) (by simp [hN]) rfl (by decide) (zf1 (zf1 (zf1 (zf1 (zf1 (zf1 hz)))))) ⟨(Nat.le_of_ble_eq_true rfl), (Nat.le_of_ble_eq_true rfl)⟩ (ex_al0 dX1_init_58 (ex_iconst (v := nI 5) dX1_init_59 rfl (ex_newp (N := (((((((N + 1) + 1) + 1) + 1) + 1) + 1) + 1)) dX1_init_60 dX1_init_62 fpX1_33 (app_at (app_at (app_at (app_at (app_at (app_at (app_at hs))))))) (by simp [hN]) rfl (by decide) (zf1 (zf1 (zf1 (zf1 (zf1 (zf1 (zf1 hz))))))) ⟨(Nat.le_of_ble_eq_true rfl), (Nat.le_of_ble_eq_true rfl)⟩ (ex_al0 dX1_init_65 (ex_iconst (v := nI 4) dX1_init_66 rfl (ex_newp (N := ((((((((N + 1) + 1) + 1) + 1) + 1) + 1) + 1) + 1)) dX1_init_67 dX1_init_69 fpX1_36 (app_at (app_at (app_at (app_at (app_at (app_at (app_at (app_at hs)))))))) (by simp [hN]) rfl (by decide) (zf1 (zf1 (zf1 (zf1 (zf1 (zf1 (zf1 (zf1 hz)))))))) ⟨(Nat.le_of_ble_eq_true rfl), (Nat.le_of_ble_eq_true rfl)⟩ (ex_vret dX1_init_72 rfl (by simp) ⟨rfl, rfl, rfl, rfl⟩))))))))))))))))))))))))))))))
theorem n_X7 {sh : Sh} {Mr : MR} {M : MM} {S N z : Nat} (hs : sh[S]? = some (10, z)) (hN : sh.length = N) (hz : zfrom M N) : Ct mX7_init XTr [.ref S] sh Mr M 3 18 (QA (sh ++ [(0, 6)] ++ [(0, 6)] ++ [(0, 6)]) (alA Mr S N [1, 2, 3]) M) := by
  refine ct_of (mi := mX7_init) (ls := [some (.ref S)]) rfl rfl (Nat.le_of_ble_eq_true rfl) rfl ?_
  exact (ex_al0 dX7_init_0 (ex_objInit dX7_init_1 oiX7_3 oi_ins oi_code ⟨(Nat.le_of_ble_eq_true rfl), (Nat.le_of_ble_eq_true rfl)⟩ (by decide) (ex_al0 dX7_init_4 (ex_bipush (v := nI 6) dX7_init_5 rfl (ex_newp (N := N) dX7_init_7 dX7_init_9 fpX7_9 hs hN rfl (by decide) hz ⟨(Nat.le_of_ble_eq_true rfl), (Nat.le_of_ble_eq_true rfl)⟩ (ex_al0 dX7_init_12 (ex_bipush (v := nI 6) dX7_init_13 rfl (ex_newp (N := (N + 1)) dX7_init_15 dX7_init_17 fpX7_15 (app_at hs) (by simp [hN]) rfl (by decide) (zf1 hz) ⟨(Nat.le_of_ble_eq_true rfl), (Nat.le_of_ble_eq_true rfl)⟩ (ex_al0 dX7_init_20 (ex_bipush (v := nI 6) dX7_init_21 rfl (ex_newp (N := ((N + 1) + 1)) dX7_init_23 dX7_init_25 fpX7_18 (app_at (app_at hs)) (by simp [hN]) rfl (by decide) (zf1 (zf1 hz)) ⟨(Nat.le_of_ble_eq_true rfl), (Nat.le_of_ble_eq_true rfl)⟩ (ex_vret dX7_init_28 rfl (by simp) ⟨rfl, rfl, rfl, rfl⟩))))))))))))
theorem n_X3 {sh : Sh} {Mr : MR} {M : MM} {S N z : Nat} (hs : sh[S]? = some (6, z)) (hN : sh.length = N) (hz : zfrom M N) : Ct mX3_init XTr [.ref S] sh Mr M 2 16 (QA (sh ++ [(0, 8)] ++ [(0, 8)]) (alA Mr S N [0, 1]) M) := by
  refine ct_of (mi := mX3_init) (ls := [some (.ref S)]) rfl rfl (Nat.le_of_ble_eq_true rfl) rfl ?_
  exact (ex_al0 dX3_init_0 (ex_objInit dX3_init_1 oiX3_3 oi_ins oi_code ⟨(Nat.le_of_ble_eq_true rfl), (Nat.le_of_ble_eq_true rfl)⟩ (by decide) (ex_al0 dX3_init_4 (ex_bipush (v := nI 8) dX3_init_5 rfl (ex_newp (N := N) dX3_init_7 dX3_init_9 fpX3_9 hs hN rfl (by decide) hz ⟨(Nat.le_of_ble_eq_true rfl), (Nat.le_of_ble_eq_true rfl)⟩ (ex_al0 dX3_init_12 (ex_bipush (v := nI 8) dX3_init_13 rfl (ex_newp (N := (N + 1)) dX3_init_15 dX3_init_17 fpX3_15 (app_at hs) (by simp [hN]) rfl (by decide) (zf1 hz) ⟨(Nat.le_of_ble_eq_true rfl), (Nat.le_of_ble_eq_true rfl)⟩ (ex_vret dX3_init_20 rfl (by simp) ⟨rfl, rfl, rfl, rfl⟩)))))))))
theorem n_X0 {sh : Sh} {Mr : MR} {M : MM} {S N z : Nat} (hs : sh[S]? = some (3, z)) (hN : sh.length = N) (hz : zfrom M N) : Ct mX0_init XTr [.ref S] sh Mr M 3 16 (QA (sh ++ [(0, 6)] ++ [(0, 6)] ++ [(0, 4)]) (alA Mr S N [0, 1, 2]) M) := by
  refine ct_of (mi := mX0_init) (ls := [some (.ref S)]) rfl rfl (Nat.le_of_ble_eq_true rfl) rfl ?_
  exact (ex_al0 dX0_init_0 (ex_objInit dX0_init_1 oiX0_3 oi_ins oi_code ⟨(Nat.le_of_ble_eq_true rfl), (Nat.le_of_ble_eq_true rfl)⟩ (by decide) (ex_al0 dX0_init_4 (ex_bipush (v := nI 6) dX0_init_5 rfl (ex_newp (N := N) dX0_init_7 dX0_init_9 fpX0_9 hs hN rfl (by decide) hz ⟨(Nat.le_of_ble_eq_true rfl), (Nat.le_of_ble_eq_true rfl)⟩ (ex_al0 dX0_init_12 (ex_bipush (v := nI 6) dX0_init_13 rfl (ex_newp (N := (N + 1)) dX0_init_15 dX0_init_17 fpX0_15 (app_at hs) (by simp [hN]) rfl (by decide) (zf1 hz) ⟨(Nat.le_of_ble_eq_true rfl), (Nat.le_of_ble_eq_true rfl)⟩ (ex_al0 dX0_init_20 (ex_iconst (v := nI 4) dX0_init_21 rfl (ex_newp (N := ((N + 1) + 1)) dX0_init_22 dX0_init_24 fpX0_18 (app_at (app_at hs)) (by simp [hN]) rfl (by decide) (zf1 (zf1 hz)) ⟨(Nat.le_of_ble_eq_true rfl), (Nat.le_of_ble_eq_true rfl)⟩ (ex_vret dX0_init_27 rfl (by simp) ⟨rfl, rfl, rfl, rfl⟩))))))))))))
