/-- a field's link -/
def FL (own : String) (idx ci k : Nat) (b : Bool) : Prop := ∃ (C : String) (T : u_T) (N : Nat), vwCl[ci]? = some (C, T, N) ∧ k < N ∧ (T k).1 = C ∧ (Cond.fieldLink own idx C (T k).2.1 (T k).2.2.1 ∈ lw_tbl ∨ ∃ host, Cond.fieldLinkNest own idx C (T k).2.1 (T k).2.2.1 host ∈ lw_tbl) ∧ (fR.getD ci [])[k]? = some b
/-- a field that may be put: not final, or the class's own constructor puts it -/
def FP (own nm : String) (idx ci k : Nat) (b : Bool) : Prop := ∃ (C : String) (T : u_T) (N : Nat), vwCl[ci]? = some (C, T, N) ∧ k < N ∧ (T k).1 = C ∧ (((T k).2.2.2 = false ∧ (Cond.fieldLink own idx C (T k).2.1 (T k).2.2.1 ∈ lw_tbl ∨ ∃ host, Cond.fieldLinkNest own idx C (T k).2.1 (T k).2.2.1 host ∈ lw_tbl)) ∨ ((T k).2.2.2 = true ∧ Cond.fieldLink own idx C (T k).2.1 (T k).2.2.1 ∈ lw_tbl ∧ C = own ∧ nm = "<init>")) ∧ (fR.getD ci [])[k]? = some b
theorem W.sz {p : Program} {l : Launch} {e : Env} {R : Room} {s : State} {m : MethodId} {args : Array Value} {below : List Frame} {meth : Method} {c : Code} {H : Heap} {locs : List Loc} {cells slots : Nat} {Q : State → Prop} {g : JFrame} (h : H.size ≤ s.heap.size + cells → W p l e R s m args below meth c H locs cells slots Q g) : W p l e R s m args below meth c H locs cells slots Q g :=
  fun T hT X => h (by have h2 := X.same.2.2.1; rw [← hT]; exact h2) T hT X
theorem wld_len {E : GE} {bb : Nat × Nat} {sh : Sh} {Mr : MR} {M : MM} : (wld E bb sh Mr M).length = sh.length := by simp [wld]
theorem wld_le {E : GE} {bb : Nat × Nat} {sh : Sh} {Mr : MR} {M : MM} {H : Heap} (hP : va_P E.1 vwCl (wld E bb sh Mr M) H) (h0 : bb.1 ≤ H.size) : bb.1 + sh.length ≤ H.size := by
  by_cases hs : sh.length = 0
  · omega
  · have hlt : sh.length - 1 < sh.length := by omega
    have h1 := (hP _ _ (wld_at (c := sh.length - 1) (List.getElem?_eq_getElem hlt))).lt
    have h2 : bb.1 + (sh.length - 1) < H.size := h1
    omega
theorem pig {E : GE} {bb : Nat × Nat} {sh : Sh} {Mr : MR} {M : MM} {H1 : Heap} {q : Nat} {x : va_E} (hP : va_P E.1 vwCl (wld E bb sh Mr M ++ [(q, x)]) H1) (hD : va_D (Ab bb) (wld E bb sh Mr M ++ [(q, x)])) (hz : H1.size ≤ bb.1 + sh.length + 1) : q = bb.1 + sh.length := by
  have hq : (wld E bb sh Mr M ++ [(q, x)])[sh.length]? = some (q, x) := by
    rw [List.getElem?_append_right (by rw [wld_len]; omega), wld_len, Nat.sub_self]; rfl
  have h1 : q < H1.size := (hP _ _ hq).lt
  have h2 : bb.1 ≤ q := hD.2 _ _ hq
  by_cases hc : q < bb.1 + sh.length
  · exfalso
    have hlt : q - bb.1 < sh.length := by omega
    have h3 := wld_at (E := E) (bb := bb) (Mr := Mr) (M := M) (c := q - bb.1) (List.getElem?_eq_getElem hlt)
    have h4 : (wld E bb sh Mr M ++ [(q, x)])[q - bb.1]? = some (bb.1 + (q - bb.1), cellV E bb Mr M (q - bb.1) sh[q - bb.1]) := by
      rw [List.getElem?_append_left (by rw [wld_len]; exact hlt)]; exact h3
    have h5 := hD.1 _ _ _ _ h4 hq (by show bb.1 + (q - bb.1) = q; omega)
    omega
  · omega
/-- a new cell holds nothing -/
def clr (M : MM) (c : Nat) : MM := fun c2 j => if c2 = c then 0 else M c2 j
def clrR (Mr : MR) (c : Nat) : MR := fun c2 j => if c2 = c then none else Mr c2 j
theorem wld_push {E : GE} {bb : Nat × Nat} {sh : Sh} {Mr : MR} {M : MM} {q : Nat × Nat} {x : va_E} (hx : x = cellV E bb (clrR Mr sh.length) (clr M sh.length) sh.length q) : wld E bb sh Mr M ++ [(bb.1 + sh.length, x)] = wld E bb (sh ++ [q]) (clrR Mr sh.length) (clr M sh.length) := by
  apply List.ext_getElem?
  intro i
  by_cases hi : i < sh.length
  · rw [List.getElem?_append_left (by rw [wld_len]; exact hi), wld_at (List.getElem?_eq_getElem hi), wld_at (c := i) (q := sh[i]) (by rw [List.getElem?_append_left hi]; exact List.getElem?_eq_getElem hi)]
    have h1 : clrR Mr sh.length i = Mr i := by funext j; simp [clrR, Nat.ne_of_lt hi]
    have h2 : clr M sh.length i = M i := by funext j; simp [clr, Nat.ne_of_lt hi]
    rw [cell_ne h1 h2]
  · by_cases he : i = sh.length
    · subst he
      rw [List.getElem?_append_right (by rw [wld_len]; omega), wld_len, Nat.sub_self, wld_at (c := sh.length) (q := q) (by simp), hx]
      rfl
    · rw [List.getElem?_eq_none (by rw [List.length_append, wld_len]; simp; omega), List.getElem?_eq_none (by rw [wld_len, List.length_append]; simp; omega)]
section EXH
variable {mi : MI} {R : Room} {Z : GE → Nat × Nat → List Frame → Array Value → State → State → Prop} {X : XT} {kc ks pc : Nat} {ls : List (Option AV)} {st : List AV} {sh : Sh} {Mr : MR} {M : MM}
theorem hts_gd {args : Array Value} {s : State} (h : ∀ w ∈ lw_tbl, okW w = true → w.before args s = true) : ∀ w ∈ gdW, w.before args s = true := fun w hw => by
  have h2 := List.mem_filter.mp hw
  exact h w h2.1 (by simp [okW, h2.2])
theorem ws_gd {C : String} {T : u_T} {N : Nat} (h : ∀ w ∈ u_ws C T N, w ∈ lw_tbl) : ∀ w ∈ u_ws C T N, w ∈ gdW := fun w hw => by
  refine List.mem_filter.mpr ⟨h w hw, ?_⟩
  obtain ⟨k, -, rfl⟩ := List.mem_map.mp hw
  unfold u_lay
  split <;> rfl
theorem ex_getG {idx ci k c n : Nat} {b : Bool} {v : AV} (d : decode mi.2.1 pc = .ok (.getfield idx, 3)) (f : FL mi.1.cls idx ci k b) (hs : sh[c]? = some (ci + 3, n)) (hv : ∀ bb, (fR.getD ci [])[k]? = some b → (flds bb Mr M c ci)[k]? = some (cv bb v)) (kk : Ex mi R Z X kc ks (pc + 3) ls (v :: st) sh Mr M) : Ex mi R Z X kc ks pc ls (.ref c :: st) sh Mr M := by
  intro l E bb p e s m args below meth c0 F H locs lsA hP hS hl hk
  obtain ⟨C, T, N, h1, h2, h3, h4, h5⟩ := f
  have hw := wld_at (E := E) (bb := bb) (Mr := Mr) (M := M) hs
  have hg := hts_gd F.2.2.2.2.2.1
  have hin := ws_gd (cl_ok ci _ h1).1
  have hsame : ∀ x, s.fieldFound? (T k).1 (T k).2.1 (T k).2.2.1 = some x → s.fieldFound? C (T k).2.1 (T k).2.2.1 = some x := fun x h => by rw [h3] at h; exact h
  rcases h4 with h4 | ⟨host, h4⟩
  · exact va_get F.1 F.2.1 hg hin F.2.2.2.2.1 F.2.2.2.2.2.2.2.2.1 hP c hw h1 k h2 (F.2.2.2.2.2.1 _ h4 rfl) hsame (hv bb h5) d (kk l E bb p e s m args below meth c0 F H locs lsA hP hS hl hk)
  · exact va_getN F.1 F.2.1 hg hin F.2.2.2.2.1 F.2.2.2.2.2.2.2.2.1 hP c hw h1 k h2 (F.2.2.2.2.2.1 _ h4 rfl) hsame (hv bb h5) d (kk l E bb p e s m args below meth c0 F H locs lsA hP hS hl hk)
theorem ex_getI {idx ci k c n : Nat} (d : decode mi.2.1 pc = .ok (.getfield idx, 3)) (f : FL mi.1.cls idx ci k false) (hs : sh[c]? = some (ci + 3, n)) (kk : Ex mi R Z X kc ks (pc + 3) ls (.int (M c k) :: st) sh Mr M) : Ex mi R Z X kc ks pc ls (.ref c :: st) sh Mr M :=
  ex_getG d f hs (fun _ h => flds_I h) kk
theorem ex_getR {idx ci k c n a : Nat} (d : decode mi.2.1 pc = .ok (.getfield idx, 3)) (f : FL mi.1.cls idx ci k true) (hs : sh[c]? = some (ci + 3, n)) (hr : Mr c k = some a) (kk : Ex mi R Z X kc ks (pc + 3) ls (.ref a :: st) sh Mr M) : Ex mi R Z X kc ks pc ls (.ref c :: st) sh Mr M :=
  ex_getG d f hs (fun _ h => by rw [flds_R h, hr]; rfl) kk
theorem ex_putG {idx ci k c n : Nat} {b : Bool} {v : AV} {Mr' : MR} {M' : MM} (d : decode mi.2.1 pc = .ok (.putfield idx, 3)) (f : FP mi.1.cls mi.1.name idx ci k b) (hs : sh[c]? = some (ci + 3, n))
    (hv : (b = false ∧ ∃ x, v = .int x) ∨ (b = true ∧ ∃ x, v = .ref x)) (hset : ∀ bb, (fR.getD ci [])[k]? = some b → (flds bb Mr M c ci).set k (cv bb v) = flds bb Mr' M' c ci) (ho : ∀ c2, c2 ≠ c → Mr' c2 = Mr c2 ∧ M' c2 = M c2) (kk : Ex mi R Z X kc ks (pc + 3) ls st sh Mr' M') : Ex mi R Z X kc ks pc ls (v :: .ref c :: st) sh Mr M := by
  intro l E bb p e s m args below meth c0 F H locs lsA hP hS hl hk
  obtain ⟨C, T, N, h1, h2, h3, h4, h5⟩ := f
  have hw := wld_at (E := E) (bb := bb) (Mr := Mr) (M := M) hs
  have hg := hts_gd F.2.2.2.2.2.1
  obtain ⟨hin0, ty0, q1, q2, q3, q4⟩ := cl_ok ci _ h1
  have hin := ws_gd hin0
  have hsame : ∀ x, s.fieldFound? (T k).1 (T k).2.1 (T k).2.2.1 = some x → s.fieldFound? C (T k).2.1 (T k).2.2.1 = some x := fun x h => by rw [h3] at h; exact h
  have hlen : k < (flds bb Mr M c ci).length := by rw [flds_len, ← q3]; exact h2
  have hnf : narrow (ty0 k) (cv bb v) = cv bb v ∧ fits (ty0 k) (cv bb v) = true := by
    rcases hv with ⟨rfl, x, rfl⟩ | ⟨rfl, x, rfl⟩
    · rcases q4 k h2 with ⟨_, h⟩ | ⟨h, _⟩
      · rw [h]; exact ⟨rfl, rfl⟩
      · have h6 := h.symm.trans h5
        cases h6
    · rcases q4 k h2 with ⟨h, _⟩ | ⟨_, _, h⟩
      · have h6 := h.symm.trans h5
        cases h6
      · exact h _
  have fin : ∀ (H1 : Heap) (locs1 : List Loc), va_P E.1 vwCl ((wld E bb sh Mr M).set c (bb.1 + c, .inr (ci, (flds bb Mr M c ci).set k (cv bb v)))) H1 → va_D (Ab bb) ((wld E bb sh Mr M).set c (bb.1 + c, .inr (ci, (flds bb Mr M c ci).set k (cv bb v)))) → va_S (Ab bb) s.heap H1 locs1 → W p l e R s m args below meth c0 H1 locs1 kc ks (Z E bb below args s) (F0 m (pc + 3) lsA (st.map (cv bb))) := by
    intro H1 locs1 g1 g2 g3
    rw [wld_set (Mr' := Mr') (M' := M') hs (by rw [hset bb h5]; rfl) (fun c2 q2 hc => cell_ne (ho c2 hc).1 (ho c2 hc).2 q2)] at g1
    exact kk l E bb p e s m args below meth c0 F H1 locs1 lsA g1 g3 hl hk
  rcases h4 with ⟨hf, h4 | ⟨host, h4⟩⟩ | ⟨hf, h4, hown, hini⟩
  · exact va_put F.1 F.2.1 hg hin ty0 q1 q2 F.2.2.2.2.1 F.2.2.2.2.2.2.2.2.1 hP wld_D hS c hw h1 k h2 (F.2.2.2.2.2.1 _ h4 rfl) hsame hf (q1 k h2) hnf.1 hnf.2 hlen d fin
  · exact va_putN F.1 F.2.1 hg hin ty0 q1 q2 F.2.2.2.2.1 F.2.2.2.2.2.2.2.2.1 hP wld_D hS c hw h1 k h2 (F.2.2.2.2.2.1 _ h4 rfl) hsame hf (q1 k h2) hnf.1 hnf.2 hlen d fin
  · exact va_putF F.1 F.2.1 hg hin ty0 q1 q2 F.2.2.2.2.1 F.2.2.2.2.2.2.2.2.1 hP wld_D hS c hw h1 k h2 (F.2.2.2.2.2.1 _ h4 rfl) hsame hf (F.2.2.2.2.2.2.2.1.trans hini) (h3.trans hown) (q1 k h2) hnf.1 hnf.2 hlen d fin
theorem ex_putI {idx ci k c n : Nat} {x : Int32} (d : decode mi.2.1 pc = .ok (.putfield idx, 3)) (f : FP mi.1.cls mi.1.name idx ci k false) (hs : sh[c]? = some (ci + 3, n)) (kk : Ex mi R Z X kc ks (pc + 3) ls st sh Mr (wr M c k x)) : Ex mi R Z X kc ks pc ls (.int x :: .ref c :: st) sh Mr M :=
  ex_putG d f hs (Or.inl ⟨rfl, x, rfl⟩) (fun _ h => flds_setI h) (fun _ h => ⟨rfl, wr_oc h⟩) kk
theorem ex_putR {idx ci k c n a : Nat} (d : decode mi.2.1 pc = .ok (.putfield idx, 3)) (f : FP mi.1.cls mi.1.name idx ci k true) (hs : sh[c]? = some (ci + 3, n)) (kk : Ex mi R Z X kc ks (pc + 3) ls st sh (wrR Mr c k (some a)) M) : Ex mi R Z X kc ks pc ls (.ref a :: .ref c :: st) sh Mr M :=
  ex_putG d f hs (Or.inr ⟨rfl, a, rfl⟩) (fun bb h => flds_setR (x := some a) h) (fun _ h => ⟨wrR_oc h, rfl⟩) kk
theorem ex_iald {c n : Nat} {i : Int32} (d : decode mi.2.1 pc = .ok (.iaload, 1)) (hs : sh[c]? = some (0, n)) (hi : vp_in i n) (kk : Ex mi R Z X kc ks (pc + 1) ls (.int (M c i.toNatClampNeg) :: st) sh Mr M) : Ex mi R Z X kc ks pc ls (.int i :: .ref c :: st) sh Mr M := by
  intro l E bb p e s m args below meth c0 F H locs lsA hP hS hl hk
  exact va_iald F.1 F.2.1 F.2.2.2.2.2.2.2.2.1 hP c 0 (wld_at hs) rfl hi d (kk l E bb p e s m args below meth c0 F H locs lsA hP hS hl hk)
theorem ex_iast {c n : Nat} {i x : Int32} (d : decode mi.2.1 pc = .ok (.iastore, 1)) (hs : sh[c]? = some (0, n)) (hi : vp_in i n) (kk : Ex mi R Z X kc ks (pc + 1) ls st sh Mr (wr M c i.toNatClampNeg x)) : Ex mi R Z X kc ks pc ls (.int x :: .int i :: .ref c :: st) sh Mr M := by
  intro l E bb p e s m args below meth c0 F H locs lsA hP hS hl hk
  refine va_iast F.1 F.2.1 F.2.2.2.2.2.2.2.2.1 hP wld_D hS c 0 (wld_at hs) rfl hi d (fun H1 locs1 g1 g2 g3 => ?_)
  rw [wld_set (Mr' := Mr) (M' := wr M c i.toNatClampNeg x) hs (by
    simp only [cellV]
    congr 4
    funext j
    simp [wr, upd]) (fun c2 q2 hc => cell_ne rfl (wr_oc hc) q2)] at g1
  exact kk l E bb p e s m args below meth c0 F H1 locs1 lsA g1 g3 hl hk
theorem ex_alen {c n : Nat} {q : Nat} (d : decode mi.2.1 pc = .ok (.arraylength, 1)) (hs : sh[c]? = some (q, n)) (hq : q < 3) (kk : Ex mi R Z X kc ks (pc + 1) ls (.int (nI n) :: st) sh Mr M) : Ex mi R Z X kc ks pc ls (.ref c :: st) sh Mr M := by
  intro l E bb p e s m args below meth c0 F H locs lsA hP hS hl hk
  have hh := kk l E bb p e s m args below meth c0 F H locs lsA hP hS hl hk
  match q, hq, hs with
  | 0, _, hs => exact va_alen F.1 F.2.1 F.2.2.2.2.2.2.2.2.1 hP c 0 (wld_at hs) (ty := .int) rfl (v := nI n) rfl d hh
  | 1, _, hs => exact va_alen F.1 F.2.1 F.2.2.2.2.2.2.2.2.1 hP c 1 (wld_at hs) (ty := .object RX7) rfl (v := nI n) rfl d hh
  | 2, _, hs => exact va_alen F.1 F.2.1 F.2.2.2.2.2.2.2.2.1 hP c 2 (wld_at hs) (ty := .array .int) rfl (v := nI n) rfl d hh
theorem ex_aald1 {c n a : Nat} {i : Int32} (d : decode mi.2.1 pc = .ok (.aaload, 1)) (hs : sh[c]? = some (1, n)) (hi : vp_in i n) (hr : Mr c i.toNatClampNeg = some a) (kk : Ex mi R Z X kc ks (pc + 1) ls (.ref a :: st) sh Mr M) : Ex mi R Z X kc ks pc ls (.int i :: .ref c :: st) sh Mr M := by
  intro l E bb p e s m args below meth c0 F H locs lsA hP hS hl hk
  refine va_aldq F.1 F.2.1 F.2.2.2.2.2.2.2.2.1 hP c 1 (wld_at hs) (C := RX7) rfl hi d ?_
  rw [hr]
  exact kk l E bb p e s m args below meth c0 F H locs lsA hP hS hl hk
theorem ex_aald2 {c n a : Nat} {i : Int32} (d : decode mi.2.1 pc = .ok (.aaload, 1)) (hs : sh[c]? = some (2, n)) (hi : vp_in i n) (hr : Mr c i.toNatClampNeg = some a) (kk : Ex mi R Z X kc ks (pc + 1) ls (.ref a :: st) sh Mr M) : Ex mi R Z X kc ks pc ls (.int i :: .ref c :: st) sh Mr M := by
  intro l E bb p e s m args below meth c0 F H locs lsA hP hS hl hk
  have hlt : i.toNatClampNeg < n := Nat.not_le.mp fun q => hi (Or.inr q)
  have hK := F.2.2.2.2.2.2.2.2.1
  have hcell := hP c _ (wld_at (E := E) (bb := bb) (Mr := Mr) (M := M) hs)
  refine W.aald (v := .ref (bb.1 + a)) (ty := .array .int) F.1 F.2.1 hcell ((hK.2 2 _ rfl).1 n (fun j => va_rf ((Mr c j).map (fun q => bb.1 + q)))) rfl (fun q => by cases q) (by show ¬ (i < 0 ∨ (arrV _ _ _).slots.size ≤ _); rw [arrV_size]; exact hi) (by show (arrV _ _ _).slots[_]? = _; rw [arrV_read _ _ hlt]; show some (va_rf ((Mr c i.toNatClampNeg).map (fun q => bb.1 + q))) = _; rw [hr]; rfl) rfl rfl d ?_
  exact kk l E bb p e s m args below meth c0 F H locs lsA hP hS hl hk
theorem ex_aast {c n a z : Nat} {i : Int32} (d : decode mi.2.1 pc = .ok (.aastore, 1)) (hs : sh[c]? = some (1, n)) (hi : vp_in i n) (ha : sh[a]? = some (7 + 3, z)) (kk : Ex mi R Z X kc ks (pc + 1) ls st sh (wrR Mr c i.toNatClampNeg (some a)) M) : Ex mi R Z X kc ks pc ls (.ref a :: .int i :: .ref c :: st) sh Mr M := by
  intro l E bb p e s m args below meth c0 F H locs lsA hP hS hl hk
  refine va_astq F.1 F.2.1 F.2.2.2.2.2.2.2.2.1 hP wld_D hS c 1 a 7 (r := (RX7, TX7, 5)) (wld_at hs) rfl (wld_at ha) rfl hi d (fun H1 locs1 g1 g2 g3 => ?_)
  rw [wld_set (Mr' := wrR Mr c i.toNatClampNeg (some a)) (M' := M) hs (by
    simp only [cellV]
    congr 7
    funext j
    by_cases hj : j = i.toNatClampNeg
    · subst hj
      simp [wrR, va_up]
    · simp [wrR, va_up, hj]) (fun c2 q2 hc => cell_ne (wrR_oc hc) rfl q2)] at g1
  exact kk l E bb p e s m args below meth c0 F H1 locs1 lsA g1 g3 hl hk
end EXH
