/-! the constructors of a pile, of the search -/
def stB : Nat → Sh
  | 0 => []
  | i + 1 => stB i ++ [(10, 0)] ++ [(0, 6)] ++ [(0, 6)] ++ [(0, 6)]
theorem stB_len : ∀ i, (stB i).length = 4 * i
  | 0 => rfl
  | i + 1 => by
    have := stB_len i
    simp only [stB, List.length_append, List.length_cons, List.length_nil]
    omega
def plR (Mr : MR) (P N : Nat) : Nat → MR
  | 0 => wrR (clrR Mr N) P 0 (some N)
  | i + 1 => wrR (alA (clrR (plR Mr P N i) (N + 1 + 4 * i)) (N + 1 + 4 * i) (N + 1 + 4 * i + 1) [1, 2, 3]) N i (some (N + 1 + 4 * i))
theorem plR_P {Mr : MR} {P N : Nat} (hP : P < N) : ∀ i, plR Mr P N i P 0 = some N
  | 0 => by simp [plR, wrR]
  | i + 1 => by
    have := plR_P (Mr := Mr) hP i
    simp only [plR, alA, wrR, clrR]
    simp [show ¬ P = N by omega, show ¬ P = N + 1 + 4 * i by omega, show ¬ P = N + 1 + 4 * i + 1 by omega, show ¬ P = N + 1 + 4 * i + 1 + 1 by omega, show ¬ P = N + 1 + 4 * i + 1 + 1 + 1 by omega, this]
theorem n_X4 {sh : Sh} {Mr : MR} {M : MM} {P N z r : Nat} (hs : sh[P]? = some (7, z)) (hN : sh.length = N) (hr : r ≤ 8) (hz : zfrom M N) : Ct mX4_init XTr [.ref P, .int (nI r)] sh Mr M (1 + 4 * r) (r + 23 * r) (QA (sh ++ [(1, r)] ++ stB r) (plR Mr P N r) M) := by
  have hP : P < N := hN ▸ (List.getElem?_eq_some_iff.mp hs).1
  refine ct_of (mi := mX4_init) (ls := [some (.ref P), some (.int (nI r)), none]) rfl rfl (Nat.le_of_ble_eq_true rfl) rfl ?_
  refine ex_al0 dX4_init_0 (ex_objInit dX4_init_1 oiX4_1 oi_ins oi_code ⟨Nat.le_of_ble_eq_true rfl, Nat.le_of_ble_eq_true rfl⟩ (by decide) (ex_al0 dX4_init_4 (ex_il1 dX4_init_5 (ex_newq (n := r) dX4_init_6 clX4_7 rfl (by omega) ⟨?_, ?_⟩ ?_))))
  · show 0 + 1 ≤ 1 + 4 * r
    omega
  · show 0 + r ≤ r + 23 * r
    omega
  rw [hN, clr_z hz]
  refine ex_putR dX4_init_9 fpX4_9 (app_at hs) (ex_iconst (v := nI 0) dX4_init_12 rfl (ex_is2 dX4_init_13 (Nat.le_of_ble_eq_true rfl) rfl ?_))
  have key : ∀ j i, i + j = r → Ex mX4_init (rmOf mX4_init (1 + 4 * r) (r + 23 * r)) (ZM sh (1 + 4 * r) (r + 23 * r) (QA (sh ++ [(1, r)] ++ stB r) (plR Mr P N r) M)) XTr (1 + 4 * i) (r + 23 * i) 14 [some (.ref P), some (.int (nI r)), some (.int (nI i))] [] (sh ++ [(1, r)] ++ stB i) (plR Mr P N i) M := by
    intro j
    induction j with
    | zero =>
      intro i hi
      have e : i = r := by omega
      subst e
      refine ex_il2 dX4_init_14 (ex_il1 dX4_init_15 (ex_icmp_geN (tgt := 38) dX4_init_16 rfl (by omega) (by omega) (fun _ => ex_vret dX4_init_38 rfl ?_ ⟨rfl, rfl, rfl, rfl⟩) (fun h => absurd (Nat.le_refl _) h)))
      simp only [List.length_append, stB_len, List.length_cons, List.length_nil]
      omega
    | succ j ih =>
      intro i hi
      have hl0 : (sh ++ [(1, r)] ++ stB i).length = N + 1 + 4 * i := by
        simp only [List.length_append, stB_len, List.length_cons, List.length_nil, hN]
      have hrow : (sh ++ [(1, r)])[N]? = some (1, r) := at_last hN
      refine ex_il2 dX4_init_14 (ex_il1 dX4_init_15 (ex_icmp_geN (tgt := 38) dX4_init_16 rfl (by omega) (by omega) (fun h => absurd h (by omega)) (fun _ => ex_al0 dX4_init_19 (ex_getR dX4_init_20 flX4_9 (app_at (app_at hs)) (plR_P hP i) (ex_il2 dX4_init_23 (ex_newN (N := N + 1 + 4 * i) (w := 5) dX4_init_24 ncX4_7 hl0 rfl (zf_up hz (by omega)) ⟨?_, ?_⟩ (ex_dupR dX4_init_27 (ex_callA (As := []) dX4_init_28 lkX4_15 rfl (n_X7 (at_last hl0) (N := N + 1 + 4 * i + 1) (by simp only [List.length_append, hl0, List.length_cons, List.length_nil]) (zf_up hz (by omega))) rfl rfl (Nat.le_of_ble_eq_true rfl) ⟨Nat.le_of_ble_eq_true rfl, Nat.le_of_ble_eq_true rfl⟩ ⟨?_, ?_⟩ (ex_aastN dX4_init_31 (app_at (app_at (app_at (app_at (app_at hrow))))) (by omega) (by omega) (app_at (app_at (app_at (at_last hl0)))) (ex_inc2 dX4_init_32 (Nat.le_of_ble_eq_true rfl) rfl (inc1 _) (ex_goto (tgt := 14) dX4_init_35 rfl (ex_eq ?_ ?_ ?_ rfl (ih (i + 1) (by omega))))))))))))))
      · show 1 + 4 * i + 1 ≤ 1 + 4 * r
        omega
      · show r + 23 * i + 5 ≤ r + 23 * r
        omega
      · show 1 + 4 * i + 1 + 3 ≤ 1 + 4 * r
        omega
      · show r + 23 * i + 5 + 18 ≤ r + 23 * r
        omega
      · omega
      · omega
      · simp only [stB, List.append_assoc]
  refine ex_eq (kc' := 1 + 4 * 0) (ks' := r + 23 * 0) rfl (by omega) (by simp [stB]) rfl (key r 0 (by omega))
/-- new int[n][k] -/
def mnR (Mr : MR) (N n : Nat) : MR := fun c j => if c = N then (if j < n then some (N + 1 + j) else none) else Mr c j
theorem ex_mna {mi : MI} {R : Room} {Z : GE → Nat × Nat → List Frame → Array Value → State → State → Prop} {X : XT} {kc ks pc : Nat} {ls : List (Option AV)} {st : List AV} {sh : Sh} {Mr : MR} {M : MM} {idx n k N : Nat} (d : decode mi.2.1 pc = .ok (.multianewarray idx 2, 4)) (hc : Cond.classLink mi.1.cls idx "[[I" ∈ lw_tbl) (hn : n ≤ 1000) (hk : k ≤ 1000) (hN : sh.length = N) (hz : zfrom M N) (hf : kc + (1 + n) ≤ R.cells ∧ ks + (n + n * k) ≤ R.slots) (kk : Ex mi R Z X (kc + 1 + n) (ks + n + n * k) (pc + 4) ls (.ref N :: st) (sh ++ ((2, n) :: List.replicate n (0, k))) (mnR Mr N n) M) : Ex mi R Z X kc ks pc ls (.int (nI k) :: .int (nI n) :: st) sh Mr M := by
  intro l E bb p e s m args below meth c F H locs lsA hP hS hl hk0
  refine W.szE hP hS F.2.2.2.2.2.2.2.2.2.1 hk0 fun hsz => ?_
  have hh := F.2.2.2.2.2.1
  have hK := F.2.2.2.2.2.2.2.2.1
  have hcy : s.vm.findClass (FieldType.array .int).toString = some E.2.1 := (hK.2 0 (E.2.1, .int) rfl).2
  refine va_mnaX (X := wld E bb sh Mr M) (L := []) (f := fun _ => .inl (E.2.1, 0, .inl (fun _ => 0))) (z := (k, .inl (fun _ => 0))) (N' := n) (K' := k) F.1 F.2.1 F.2.2.2.2.1 (hh _ hc rfl) F.2.2.2.2.2.2.2.2.2.2.2.1 (hh _ ar_int rfl) hcy hK (by show va_P E.1 vwCl (wld E bb sh Mr M ++ []) H; rw [List.append_nil]; exact hP) (by show va_D (Ab bb) (wld E bb sh Mr M ++ []); rw [List.append_nil]; exact wld_D) hS (fun q hq => Nat.le_trans F.2.2.2.2.2.2.2.2.2.1 hq) (nI_pos (by omega)) (nI_pos (by omega)) (nI_clamp (by omega)) (nI_clamp (by omega)) (by omega) (by simp [componentBytes]; omega) (by omega) rfl rfl hf.1 hf.2 (fun c => ?_) d (fun q r cA H1 hq hr hr2 hr3 gK g1 g2 g3 => ?_)
  · show ({ cls := c, slots := Array.replicate k (.int 0), vm := .none } : Cell) = _
    rw [arrV_new]
    rfl
  · have hcA : cA = E.2.2.2 := by
      have a1 : s.vm.findClass ("[" ++ (FieldType.array .int).toString) = some cA := (gK.2 3 (cA, .array .int) rfl).2
      have a2 : s.vm.findClass ("[" ++ (FieldType.array .int).toString) = some E.2.2.2 := (gK.2 2 (E.2.2.2, .array .int) rfl).2
      exact Option.some.inj (a1.symm.trans a2)
    subst hcA
    subst hN
    have hlist : (wld E bb sh Mr M ++ [(q, .inl (E.2.2.2, n, .inr (.inr (.inr (.inr (fun i => if i < n then some (r i) else none))))))]) ++ va_pl ([] ++ (List.range n).map r) (vr_up (fun _ => .inl (E.2.1, 0, .inl (fun _ => 0))) ((List.range n).map r) (.inl (E.2.1, (k, .inl (fun _ => 0))))) = wld E bb (sh ++ ((2, n) :: List.replicate n (0, k))) (mnR Mr sh.length n) M := by
      apply List.ext_getElem?
      intro i
      by_cases h1 : i < sh.length
      · rw [List.getElem?_append_left (by simp [wld_len]; omega), List.getElem?_append_left (by rw [wld_len]; exact h1), wld_at (List.getElem?_eq_getElem h1), wld_at (q := sh[i]) (by rw [List.getElem?_append_left h1]; exact List.getElem?_eq_getElem h1)]
        rw [cell_ne (M' := M) (M := M) (show mnR Mr sh.length n i = Mr i from by funext j; simp [mnR, Nat.ne_of_lt h1]) rfl]
      · by_cases h2 : i = sh.length
        · subst h2
          rw [List.getElem?_append_left (by simp [wld_len]), List.getElem?_append_right (by rw [wld_len]; omega), wld_len, Nat.sub_self, wld_at (q := (2, n)) (by simp)]
          show some (q, _) = some (_, _)
          rw [hq, hsz]
          simp only [cellV]
          congr 9
          funext j
          simp only [mnR, if_true]
          by_cases hj : j < n
          · rw [if_pos hj, if_pos hj, hr j, hsz]
            simp only [Option.map_some]
            congr 1
            omega
          · rw [if_neg hj, if_neg hj]
            rfl
        · by_cases h3 : i < sh.length + 1 + n
          · obtain ⟨j, rfl⟩ : ∃ j, i = sh.length + 1 + j := ⟨i - (sh.length + 1), by omega⟩
            have hj : j < n := by omega
            rw [List.getElem?_append_right (by simp [wld_len]), wld_at (c := sh.length + 1 + j) (q := (0, k)) (by rw [List.getElem?_append_right (by omega), show sh.length + 1 + j - sh.length = j + 1 by omega]; simp [hj])]
            simp only [List.length_append, wld_len, List.length_cons, List.length_nil, va_pl, List.nil_append, List.getElem?_map, Nat.zero_add]
            rw [show sh.length + 1 + j - (sh.length + 1) = j by omega, List.getElem?_range hj]
            simp only [Option.map_some]
            rw [vr_up_in (List.mem_map.mpr ⟨j, List.mem_range.mpr hj, rfl⟩), hr j, hsz]
            simp only [cellV]
            rw [hz (sh.length + 1 + j) (by omega), show bb.1 + sh.length + 1 + j = bb.1 + (sh.length + 1 + j) by omega]
          · rw [List.getElem?_eq_none (by simp [wld_len, va_pl]; omega), List.getElem?_eq_none (by rw [wld_len]; simp; omega)]
    rw [hlist] at g1
    have hgo := kk l E bb p e s m args below meth c F H1 locs lsA g1 g3 hl (by simp; omega)
    rw [List.map_cons, show cv bb (.ref sh.length) = .ref q from by rw [hq, hsz]; rfl] at hgo
    exact hgo
theorem n_X6 {sh : Sh} {Mr : MR} {M : MM} {S N z : Nat} (hs : sh[S]? = some (9, z)) (hN : sh.length = N) (hz : zfrom M N) : Ct mX6_init XTr [.ref S] sh Mr M 9 54 (QA (sh ++ ((2, 6) :: List.replicate 6 (0, 6)) ++ [(0, 6)] ++ [(0, 6)]) (alA (wrR (mnR Mr N 6) S 0 (some N)) S (N + 7) [1, 2]) M) := by
  refine ct_of (mi := mX6_init) (ls := [some (.ref S)]) rfl rfl (Nat.le_of_ble_eq_true rfl) rfl ?_
  exact ex_al0 dX6_init_0 (ex_objInit dX6_init_1 oiX6_3 oi_ins oi_code ⟨Nat.le_of_ble_eq_true rfl, Nat.le_of_ble_eq_true rfl⟩ (by decide) (ex_al0 dX6_init_4 (ex_bipush (v := nI 6) dX6_init_5 rfl (ex_bipush (v := nI 6) dX6_init_7 rfl (ex_mna dX6_init_9 clX6_9 (by decide) (by decide) hN hz ⟨Nat.le_of_ble_eq_true rfl, Nat.le_of_ble_eq_true rfl⟩ (ex_putR dX6_init_13 fpX6_11 (app_at hs) (ex_al0 dX6_init_16 (ex_bipush (v := nI 6) dX6_init_17 rfl (ex_newp (N := N + 7) dX6_init_19 dX6_init_21 fpX6_16 (app_at hs) (by simp [hN]) rfl (by decide) (zf_up hz (by omega)) ⟨Nat.le_of_ble_eq_true rfl, Nat.le_of_ble_eq_true rfl⟩ (ex_al0 dX6_init_24 (ex_bipush (v := nI 6) dX6_init_25 rfl (ex_newp (N := N + 7 + 1) dX6_init_27 dX6_init_29 fpX6_20 (app_at (app_at hs)) (by simp [hN]) rfl (by decide) (zf_up hz (by omega)) ⟨Nat.le_of_ble_eq_true rfl, Nat.le_of_ble_eq_true rfl⟩ (ex_vret dX6_init_32 rfl (by simp) ⟨rfl, rfl, rfl, rfl⟩)))))))))))))
