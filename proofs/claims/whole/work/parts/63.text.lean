/-! what lies outside the cells: the class's first text, what String's methods read -/
def tx0 : String := "t0,0,6,5,0;t1,6,4,3,1;t2,9,5,8,2;t3,16,6,1,0;t1,20,2,2,3;s0,6;s8,4;s15,5;s22,4;f4,3,2;b20;"
def txB : List Int32 := [116, 48, 44, 48, 44, 54, 44, 53, 44, 48, 59, 116, 49, 44, 54, 44, 52, 44, 51, 44, 49, 59, 116, 50, 44, 57, 44, 53, 44, 56, 44, 50, 59, 116, 51, 44, 49, 54, 44, 54, 44, 49, 44, 48, 59, 116, 49, 44, 50, 48, 44, 50, 44, 50, 44, 51, 59, 115, 48, 44, 54, 59, 115, 56, 44, 52, 59, 115, 49, 53, 44, 53, 59, 115, 50, 50, 44, 52, 59, 102, 52, 44, 51, 44, 50, 59, 98, 50, 48, 59]
def SFm : String := "Ljava/util/function/BiFunction;"
def SF (aK aV : Nat) (A : Nat → Prop) (s : State) : Prop := vk_R RX8 76 tx0 aK s ∧ vk_S 1 [90] [txB] (fun _ => aK) (fun _ => aV) A s s.heap ∧ va_Z RJ0 "COMPACT_STRINGS" "Z" (.int 1) A s s.heap ∧ va_Zq RJ3 "SIOOBE_FORMATTER" SFm A s s.heap
theorem SF.same {aK aV : Nat} {A : Nat → Prop} {u U : State} (hh : U.heap = u.heap) (hv : U.vm = u.vm) (h : SF aK aV A u) : SF aK aV A U := by
  obtain ⟨h1, h2, h3, h4⟩ := h
  have ha : u.vm.Alike U.vm := by rw [hv]; exact Vm.Alike.refl _
  exact ⟨h1.same hv, by rw [hh]; exact vk_S.moved ha h2, by rw [hh]; exact va_Z.moved ha h3, by rw [hh]; exact va_Zq.moved ha h4⟩
theorem SF.go {aK aV : Nat} {A : Nat → Prop} {s U : State} {H : Heap} {locs : List Loc} (h : SF aK aV A s) (hS : va_S A s.heap H locs) (hU : U.heap = H) (hW : s.WarmedH U.vm) : SF aK aV A U := by
  obtain ⟨h1, h2, h3, h4⟩ := h
  exact ⟨h1.warm hW, by rw [hU]; exact (vk_S.moved hW.alike h2).kept hS.2.1, by rw [hU]; exact (va_Z.moved hW.alike h3).kept hS.2.1, by rw [hU]; exact (va_Zq.moved hW.alike h4).kept hS.2.1⟩
/-- somewhere; the text at bb.2; its bytes at bb.2 -/
def XS : XT := fun bb s => ∃ aK aV, SF aK aV (Ab bb) s
def XK : XT := fun bb s => ∃ aV, SF bb.2 aV (Ab bb) s
def XV : XT := fun bb s => ∃ aK, SF aK bb.2 (Ab bb) s
theorem xm_KK : XMove XK XK := ⟨fun _ _ _ hh hv ⟨a, h⟩ => ⟨a, h.same hh hv⟩, fun _ _ _ _ _ ⟨a, h⟩ hS hU hW => ⟨a, h.go hS hU hW⟩⟩
theorem xm_VV : XMove XV XV := ⟨fun _ _ _ hh hv ⟨a, h⟩ => ⟨a, h.same hh hv⟩, fun _ _ _ _ _ ⟨a, h⟩ hS hU hW => ⟨a, h.go hS hU hW⟩⟩
/-- not what lies outside -/
def nf : AV → Bool := fun v => match v with
  | .float _ => false
  | _ => true
theorem nf_cv {v : AV} (h : nf v = true) (a z z' : Nat) : cv (a, z) v = cv (a, z') v := by
  cases v <;> first | rfl | (simp [nf] at h)
theorem nf_map : ∀ {st : List AV}, st.all nf = true → ∀ (a z z' : Nat), st.map (cv (a, z)) = st.map (cv (a, z'))
  | [], _, _, _, _ => rfl
  | v :: r, h, a, z, z' => by
    simp only [List.all_cons, Bool.and_eq_true] at h
    rw [List.map_cons, List.map_cons, nf_cv h.1 a z z', nf_map h.2 a z z']
/-- an end that doesn't speak of what lies outside -/
def ZN (Z : GE → Nat × Nat → List Frame → Array Value → State → State → Prop) : Prop := ∀ E a z z', Z E (a, z) = Z E (a, z')
theorem zn_M {sh0 : Sh} {mc ms : Nat} {Q : Option AV → Sh → MR → MM → Prop} (hQ : ∀ r sh Mr M, Q r sh Mr M → (match r with | some v => nf v | none => true) = true) : ZN (ZM sh0 mc ms Q) := by
  have one : ∀ (E : GE) (a z z' : Nat) (x : Array Value) (st : State) (o : Outcome) (t : State), CPost E (a, z) mc sh0 Q x st o t → CPost E (a, z') mc sh0 Q x st o t := by
    intro E a z z' x st o t h
    obtain ⟨⟨r, sh, Mr, M, h1, h2, h3, h4⟩, h5⟩ := h
    refine ⟨⟨r, sh, Mr, M, ?_, h2, h3, h4⟩, h5⟩
    have := hQ r sh Mr M h2
    rw [h1]
    cases r with
    | none => rfl
    | some v => simp only [Option.map_some]; rw [nf_cv this a z z']
  intro E a z z'
  have e : CPost E (a, z) mc sh0 Q = CPost E (a, z') mc sh0 Q := by
    funext x st o t
    exact propext ⟨one E a z z' x st o t, one E a z' z x st o t⟩
  funext below args s
  show MQ below (CPost E (a, z) mc sh0 Q) args s mc ms (Ab (a, z)) = MQ below (CPost E (a, z') mc sh0 Q) args s mc ms (Ab (a, z'))
  rw [e]
  rfl
theorem zn_I {sh0 sh1 : Sh} {Mr1 : MR} {mc ms : Nat} {Q : Int32 → MM → Prop} : ZN (ZM sh0 mc ms (QI sh1 Mr1 Q)) := zn_M (fun r sh Mr M h => by obtain ⟨_, _, v, rfl, _⟩ := h; rfl)
theorem zn_V {sh0 sh1 : Sh} {Mr1 : MR} {mc ms : Nat} {Q : MM → Prop} : ZN (ZM sh0 mc ms (QV sh1 Mr1 Q)) := zn_M (fun r sh Mr M h => by obtain ⟨_, _, rfl, _⟩ := h; rfl)
theorem fl_J0_9 : Cond.fieldLink RJ0 9 RJ0 "value" "[B" ∈ lw_tbl := (List.mem_of_getElem? (i := 1112) (by decide +kernel))
theorem fl_J0_15 : Cond.fieldLink RJ0 15 RJ0 "coder" "B" ∈ lw_tbl := (List.mem_of_getElem? (i := 1113) (by decide +kernel))
theorem fl_J0_38 : Cond.fieldLink RJ0 38 RJ0 "COMPACT_STRINGS" "Z" ∈ lw_tbl := (List.mem_of_getElem? (i := 310) (by decide +kernel))
theorem fl_J0_1053 : Cond.fieldLink RJ0 1053 RJ3 "SIOOBE_FORMATTER" SFm ∈ lw_tbl := (List.mem_of_getElem? (i := 326) (by decide +kernel))
section EXS
variable {mi : MI} {R : Room} {Z : GE → Nat × Nat → List Frame → Array Value → State → State → Prop} {X X' : XT} {kc ks pc : Nat} {ls ls' : List (Option AV)} {st : List AV} {sh : Sh} {Mr : MR} {M : MM}
/-- the same state, told from another place outside -/
theorem ex_rebW (k : Ex mi R Z X' kc ks pc ls' st sh Mr M) (hZ : ZN Z) {l : Launch} {E : GE} {bb : Nat × Nat} {p : Program} {e : Env} {s : State} {m : MethodId} {args : Array Value} {below : List Frame} {meth : Method} {c : Code} (F : Fix mi X E bb p s m args meth c) {H : Heap} {locs : List Loc} {lsA : Array Slot} (z : Nat) (hX : X' (bb.1, z) s) (hP : va_P E.1 vwCl (wld E bb sh Mr M) H) (hS : va_S (Ab bb) s.heap H locs) (hl : LH bb mi.2.2.1 lsA ls) (hls : ∀ (i : Nat) (v : AV), ls'[i]? = some (some v) → ls[i]? = some (some v) ∧ nf v = true) (hk : s.heap.size + kc = bb.1 + sh.length) : W p l e R s m args below meth c H locs kc ks (Z E bb below args s) (F0 m pc lsA (st.map (cv (bb.1, z)))) := by
  obtain ⟨a, y⟩ := bb
  have F' : Fix mi X' E (a, z) p s m args meth c := ⟨F.1, F.2.1, F.2.2.1, F.2.2.2.1, F.2.2.2.2.1, F.2.2.2.2.2.1, F.2.2.2.2.2.2.1, F.2.2.2.2.2.2.2.1, F.2.2.2.2.2.2.2.2.1, F.2.2.2.2.2.2.2.2.2.1, F.2.2.2.2.2.2.2.2.2.2.1, F.2.2.2.2.2.2.2.2.2.2.2.1, hX⟩
  rw [hZ E a y z]
  refine k l E (a, z) p e s m args below meth c F' H locs lsA hP hS ⟨hl.1, hl.2.1, fun q hq => hl.2.2 q ?_⟩ hk
  obtain ⟨i, v, h1, rfl⟩ := mem_lvl _ _ _ hq
  obtain ⟨h2, h3⟩ := hls i v h1
  rw [nf_cv h3 a z y]
  exact lvl_mem ls 0 i v h2
theorem ex_reb (hX : ∀ bb s, X bb s → ∃ z, X' (bb.1, z) s) (hZ : ZN Z) (hls : ls.all (fun o => match o with | some v => nf v | none => true) = true) (hst : st.all nf = true) (k : Ex mi R Z X' kc ks pc ls st sh Mr M) : Ex mi R Z X kc ks pc ls st sh Mr M := by
  intro l E bb p e s m args below meth c F H locs lsA hP hS hl hk
  obtain ⟨z, hz⟩ := hX bb s F.2.2.2.2.2.2.2.2.2.2.2.2
  have := ex_rebW k hZ (l := l) (e := e) (below := below) F z hz hP hS hl (fun i v h => ⟨h, by have := List.all_eq_true.mp hls _ (List.mem_of_getElem? h); exact this⟩) hk
  rw [nf_map hst bb.1 z bb.2] at this
  exact this
theorem xS_K : ∀ bb s, XS bb s → ∃ z, XK (bb.1, z) s := fun _ _ ⟨aK, aV, h⟩ => ⟨aK, aV, h⟩
theorem ex_ldcS (hc : mi.1.cls = RX8) (d : decode mi.2.1 pc = .ok (.ldc 76, 2)) (k : Ex mi R Z XK kc ks (pc + 2) ls (.float 0 :: st) sh Mr M) : Ex mi R Z XK kc ks pc ls st sh Mr M := by
  intro l E bb p e s m args below meth c F H locs lsA hP hS hl hk
  obtain ⟨aV, h1, h2, h3, h4⟩ := F.2.2.2.2.2.2.2.2.2.2.2.2
  exact va_ldcS F.1 F.2.1 (by rw [← hc]; exact F.2.2.2.2.1) h1 d (k l E bb p e s m args below meth c F H locs lsA hP hS hl hk)
theorem ex_callVF {ce : MI} {idx n : Nat} {x : UInt32} {As rest : List AV} {Q : Option AV → Sh → MR → MM → Prop} (d : decode mi.2.1 pc = .ok (.invokevirtual idx, 3)) (hL : LKV mi.1.cls idx ce n) (hcl : ce.1.cls = RJ0) (hC : Ct ce XK (.float x :: As) sh Mr M 0 0 Q) (hn : As.length = n) (hst : st = As.reverse ++ .float x :: rest) (hw : rest.length ≤ 4)
    (hR : ce.2.2.2.2.1 + 1 ≤ R.frames ∧ 8 + (ce.2.2.1 + 11) + ce.2.2.2.2.2 ≤ R.locals) (hf : kc ≤ R.cells ∧ ks ≤ R.slots) (k : ∀ r sh' Mr' M', Q r sh' Mr' M' → Ex mi R Z XK kc ks (pc + 3) ls (r.toList ++ rest) sh' Mr' M') : Ex mi R Z XK kc ks pc ls st sh Mr M := by
  intro l E bb p e s m args below meth c F H locs lsA hP hS hl hk
  subst hst
  refine W.szE hP hS F.2.2.2.2.2.2.2.2.2.1 hk fun hz => ?_
  obtain ⟨⟨hlk, hini, hcode, hd⟩, hins, hsel⟩ := hL
  have hg := hts_gd F.2.2.2.2.2.1
  have S : CallFix p m c mi.2.1 mi.2.2.1 s args gdW mi.1.cls := ⟨F.1, F.2.1, F.2.2.2.1, F.2.2.2.2.1, hg⟩
  obtain ⟨aV, h1, h2, h3, h4⟩ := F.2.2.2.2.2.2.2.2.2.2.2.2
  have hrecv : ∃ cell : Cell, H[bb.2]? = some cell ∧ cell.vm.isStatics = false ∧ s.vm.findClass ce.1.cls = some cell.cls := by rw [hcl]; exact vk_recv (i := 0) h2 (by decide) hS
  have hp : PreV s H ce.1.cls bb.2 (CPre E bb XK (.float x :: As) sh Mr M) (As.map (cv bb)) := ⟨cpre_blind xm_KK, hrecv, fun U hU hW => pre_at F xm_KK hP hS hz U hU hW⟩
  have hh := F.2.2.2.2.2.1
  have hstk : ((As.reverse ++ .float x :: rest).map (cv bb)) = (As.map (cv bb)).reverse ++ .ref bb.2 :: rest.map (cv bb) := by simp [cv]
  have hw8 : 2 * (F0 m pc lsA ((As.reverse ++ .float x :: rest).map (cv bb))).monitorRoom + ((rest.map (cv bb)).map fun v => v.category).sum ≤ 8 := lv_room (by have := cat_sum (bb := bb) rest; omega)
  have run : va_Run p l e R s m args below meth c H locs kc ks 0 0 (F0 m pc lsA ((As.reverse ++ .float x :: rest).map (cv bb))) (rest.map (cv bb)) (CPost E bb 0 sh Q (Value.ref bb.2 :: As.map (cv bb)).toArray) (Ab bb) := by
    rcases hlk with hlk | ⟨host, hlk⟩
    · exact va_runV S (hC l E bb) ⟨callB_of n hg (good_in hcode) rfl rfl rfl (hh _ hini rfl) (hh _ hlk rfl) hd hR, hh _ hins rfl, hh _ hsel rfl⟩ hp rfl (by simp [hn]) hl.1 hstk hw8 d hf
    · exact va_runVN S (hC l E bb) ⟨va_cnB n hg (good_in hcode) rfl rfl rfl (va_Nw.of rfl (hh _ hlk rfl)) (hh _ hini rfl) hd hR, hh _ hins rfl, hh _ hsel rfl⟩ hp rfl (by simp [hn]) hl.1 hstk hw8 d hf
  refine run_post run hS fun r sh' Mr' M' H1 locs1 hq hlen hP1 hS1 => ?_
  have hgo := k r sh' Mr' M' hq l E bb p e s m args below meth c F H1 locs1 lsA hP1 hS1 hl (by omega)
  cases r <;> exact hgo
theorem ex_getC {x : UInt32} (hc : mi.1.cls = RJ0) (d : decode mi.2.1 pc = .ok (.getfield 15, 3)) (k : Ex mi R Z XK kc ks (pc + 3) ls (.int (nI 0) :: st) sh Mr M) : Ex mi R Z XK kc ks pc ls (.float x :: st) sh Mr M := by
  intro l E bb p e s m args below meth c F H locs lsA hP hS hl hk
  obtain ⟨aV, h1, h2, h3, h4⟩ := F.2.2.2.2.2.2.2.2.2.2.2.2
  exact vk_getf F.1 F.2.1 (h2.1 0 (by decide)).2.1 hS F.2.2.2.2.1 (F.2.2.2.2.2.1 _ (by rw [hc]; exact fl_J0_15) rfl) (fun _ h => h) d (k l E bb p e s m args below meth c F H locs lsA hP hS hl hk)
theorem ex_valLen {x : UInt32} (hc : mi.1.cls = RJ0) (d : decode mi.2.1 pc = .ok (.getfield 9, 3)) (d2 : decode mi.2.1 (pc + 3) = .ok (.arraylength, 1)) (k : Ex mi R Z XK kc ks (pc + 3 + 1) ls (.int (nI 90) :: st) sh Mr M) : Ex mi R Z XK kc ks pc ls (.float x :: st) sh Mr M := by
  intro l E bb p e s m args below meth c F H locs lsA hP hS hl hk
  obtain ⟨aV, h1, h2, h3, h4⟩ := F.2.2.2.2.2.2.2.2.2.2.2.2
  refine vk_getf F.1 F.2.1 (h2.1 0 (by decide)).2.2.1 hS F.2.2.2.2.1 (F.2.2.2.2.2.1 _ (by rw [hc]; exact fl_J0_9) rfl) (fun _ h => h) d ?_
  exact va_tlen F.1 F.2.1 (h2.1 0 (by decide)).2.2.2 hS rfl d2 (k l E bb p e s m args below meth c F H locs lsA hP hS hl hk)
theorem ex_getV {x : UInt32} (hc : mi.1.cls = RJ0) (hZ : ZN Z) (hls : ∀ (i : Nat) (v : AV), ls'[i]? = some (some v) → ls[i]? = some (some v) ∧ nf v = true) (hst : st.all nf = true) (d : decode mi.2.1 pc = .ok (.getfield 9, 3)) (k : Ex mi R Z XV kc ks (pc + 3) ls' (.float 0 :: st) sh Mr M) : Ex mi R Z XK kc ks pc ls (.float x :: st) sh Mr M := by
  intro l E bb p e s m args below meth c F H locs lsA hP hS hl hk
  obtain ⟨aV, hF⟩ := F.2.2.2.2.2.2.2.2.2.2.2.2
  have hF2 := hF
  obtain ⟨h1, h2, h3, h4⟩ := hF2
  refine vk_getf F.1 F.2.1 (h2.1 0 (by decide)).2.2.1 hS F.2.2.2.2.1 (F.2.2.2.2.2.1 _ (by rw [hc]; exact fl_J0_9) rfl) (fun _ h => h) d ?_
  have := ex_rebW k hZ (l := l) (e := e) (below := below) F aV ⟨bb.2, hF⟩ hP hS hl hls hk
  rw [List.map_cons, nf_map hst bb.1 aV bb.2] at this
  exact this
theorem ex_gets38 (hc : mi.1.cls = RJ0) (d : decode mi.2.1 pc = .ok (.getstatic 38, 3)) (k : Ex mi R Z XK kc ks (pc + 3) ls (.int (nI 1) :: st) sh Mr M) : Ex mi R Z XK kc ks pc ls st sh Mr M := by
  intro l E bb p e s m args below meth c F H locs lsA hP hS hl hk
  obtain ⟨aV, h1, h2, h3, h4⟩ := F.2.2.2.2.2.2.2.2.2.2.2.2
  exact va_gets F.1 F.2.1 h3 hS F.2.2.2.2.1 (F.2.2.2.2.2.1 _ (by rw [hc]; exact fl_J0_38) rfl) (fun _ h => h) d (k l E bb p e s m args below meth c F H locs lsA hP hS hl hk)
theorem ex_gets1053 (hc : mi.1.cls = RJ0) (hZ : ZN Z) (hls : ls.all (fun o => match o with | some v => nf v | none => true) = true) (hst : st.all nf = true) (d : decode mi.2.1 pc = .ok (.getstatic 1053, 3)) (k : ∀ v, nl (some v) = true → Ex mi R Z XTr kc ks (pc + 3) ls (v :: st) sh Mr M) : Ex mi R Z XV kc ks pc ls st sh Mr M := by
  intro l E bb p e s m args below meth c F H locs lsA hP hS hl hk
  obtain ⟨aK, h1, h2, h3, h4⟩ := F.2.2.2.2.2.2.2.2.2.2.2.2
  have hls' : ∀ (i : Nat) (v : AV), ls[i]? = some (some v) → ls[i]? = some (some v) ∧ nf v = true := fun i v h => ⟨h, by have := List.all_eq_true.mp hls _ (List.mem_of_getElem? h); exact this⟩
  have go : ∀ (z : Nat) (v : AV), nl (some v) = true → W p l e R s m args below meth c H locs kc ks (Z E bb below args s) (F0 m (pc + 3) lsA (cv (bb.1, z) v :: st.map (cv bb))) := fun z v hv => by
    have := ex_rebW (k v hv) hZ (l := l) (e := e) (below := below) F z trivial hP hS hl hls' hk
    rw [List.map_cons, nf_map hst bb.1 z bb.2] at this
    exact this
  rcases h4 with h4 | ⟨t, h4⟩
  · exact va_gets F.1 F.2.1 h4 hS F.2.2.2.2.1 (F.2.2.2.2.2.1 _ (by rw [hc]; exact fl_J0_1053) rfl) (fun _ h => h) d (go bb.2 .null rfl)
  · exact va_gets F.1 F.2.1 h4 hS F.2.2.2.2.1 (F.2.2.2.2.2.1 _ (by rw [hc]; exact fl_J0_1053) rfl) (fun _ h => h) d (go t (.float 0) rfl)
theorem ex_tlenF {x : UInt32} (d : decode mi.2.1 pc = .ok (.arraylength, 1)) (k : Ex mi R Z XV kc ks (pc + 1) ls (.int (nI 90) :: st) sh Mr M) : Ex mi R Z XV kc ks pc ls (.float x :: st) sh Mr M := by
  intro l E bb p e s m args below meth c F H locs lsA hP hS hl hk
  obtain ⟨aK, h1, h2, h3, h4⟩ := F.2.2.2.2.2.2.2.2.2.2.2.2
  exact va_tlen F.1 F.2.1 (h2.1 0 (by decide)).2.2.2 hS rfl d (k l E bb p e s m args below meth c F H locs lsA hP hS hl hk)
theorem ex_tbF {x : UInt32} {i : Nat} (d : decode mi.2.1 pc = .ok (.baload, 1)) (hi : i < 90) (k : Ex mi R Z XV kc ks (pc + 1) ls (.int (txB.getD i 0) :: st) sh Mr M) : Ex mi R Z XV kc ks pc ls (.int (nI i) :: .float x :: st) sh Mr M := by
  intro l E bb p e s m args below meth c F H locs lsA hP hS hl hk
  obtain ⟨aK, h1, h2, h3, h4⟩ := F.2.2.2.2.2.2.2.2.2.2.2.2
  exact va_tb F.1 F.2.1 (h2.1 0 (by decide)).2.2.2 hS (vp_in_nI hi (by decide)) (by rw [nI_clamp (by omega)]; rfl) d (k l E bb p e s m args below meth c F H locs lsA hP hS hl hk)
theorem ex_i2c {x v : Int32} (d : decode mi.2.1 pc = .ok (.i2c, 1)) (hv : (x.toUInt32 % 65536).toInt32 = v) (k : Ex mi R Z X kc ks (pc + 1) ls (.int v :: st) sh Mr M) : Ex mi R Z X kc ks pc ls (.int x :: st) sh Mr M := by
  intro l E bb p e s m args below meth c F H locs lsA hP hS hl hk
  exact lv_i2c F.1 F.2.1 d hv (k l E bb p e s m args below meth c F H locs lsA hP hS hl hk)
end EXS
