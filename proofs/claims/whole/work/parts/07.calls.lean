/-! new cells; calls; returns; a method's entry -/
theorem W.szE {E : GE} {bb : Nat × Nat} {sh : Sh} {Mr : MR} {M : MM} {p : Program} {l : Launch} {e : Env} {R : Room} {s : State} {m : MethodId} {args : Array Value} {below : List Frame} {meth : Method} {c : Code} {H : Heap} {locs : List Loc} {kc ks : Nat} {Q : State → Prop} {g : JFrame}
    (hP : va_P E.1 vwCl (wld E bb sh Mr M) H) (hS : va_S (Ab bb) s.heap H locs) (h0 : bb.1 ≤ s.heap.size) (hk : s.heap.size + kc = bb.1 + sh.length) (h : H.size = bb.1 + sh.length → W p l e R s m args below meth c H locs kc ks Q g) : W p l e R s m args below meth c H locs kc ks Q g :=
  W.sz fun hz => h (by have h1 := wld_le hP (Nat.le_trans h0 hS.1); omega)
/-- what a call's words are -/
def LK (own : String) (idx : Nat) (ce : MI) (n : Nat) : Prop := (Cond.methodLink own idx ce.1 ∈ lw_tbl ∨ ∃ host, Cond.methodLinkNest own idx ce.1 host ∈ lw_tbl) ∧ Cond.initialized ce.1.cls ∈ lw_tbl ∧ Cond.code ce.1 ce.2.1 ce.2.2.1 ce.2.2.2.1 ∈ lw_tbl ∧ (ce.1.cls ≠ "java/lang/invoke/MethodHandle" ∧ ce.1.cls ≠ "java/lang/invoke/VarHandle" ∧ (parseMethodDescriptor ce.1.desc).map (fun d => d.parameters.length) = some n)
def LKV (own : String) (idx : Nat) (ce : MI) (n : Nat) : Prop := LK own idx ce n ∧ Cond.instanceMethod ce.1 ∈ lw_tbl ∧ Cond.selects ce.1.cls ce.1 ce.1 ∈ lw_tbl
def LKS (own : String) (idx : Nat) (ce : MI) (n : Nat) : Prop := LK own idx ce n ∧ Cond.static ce.1 ∈ lw_tbl
def LKI (own : String) (idx : Nat) (ce : MI) (n : Nat) : Prop := LK own idx ce n ∧ Cond.instanceMethod ce.1 ∈ lw_tbl ∧ ce.1.name = "<init>"
/-- what the callee's extra premise asks of the caller's -/
def XMove (X X' : XT) : Prop := (∀ (bb : Nat × Nat) (u U : State), U.heap = u.heap → U.vm = u.vm → X' bb u → X' bb U) ∧ ∀ (bb : Nat × Nat) (s : State) (H : Heap) (U : State) (locs : List Loc), X bb s → va_S (Ab bb) s.heap H locs → U.heap = H → s.WarmedH U.vm → X' bb U
theorem xm_tr {X : XT} : XMove X XTr := ⟨fun _ _ _ _ _ _ => trivial, fun _ _ _ _ _ _ _ _ _ => trivial⟩
theorem good_in {ce : MI} (h : Cond.code ce.1 ce.2.1 ce.2.2.1 ce.2.2.2.1 ∈ lw_tbl) : GoodIn gdW (wsOf ce) := by
  have g : ∀ w ∈ gdW, w ∈ gdW ∧ ((w.onTables && w.keeps) = true ∨ ∃ ty, w = .arrayClass ty) := fun w hw => ⟨hw, good_of_word (List.mem_filter.mp hw).2⟩
  intro w hw
  rcases List.mem_cons.mp hw with rfl | hw
  · exact g _ (List.mem_filter.mpr ⟨h, rfl⟩)
  · exact g w hw
theorem cpre_blind {E : GE} {bb : Nat × Nat} {X X' : XT} {As : List AV} {sh : Sh} {Mr : MR} {M : MM} (hX : XMove X X') : FrameBlind (CPre E bb X' As sh Mr M) := by
  intro a U g mk h
  obtain ⟨h1, h2, h3, h4, h5, h6⟩ := h
  exact ⟨h1, h2, va_K.moved (u := U) (U := U.calling g mk a) (Vm.Alike.refl U.vm) h3, h4, h5.same rfl, hX.1 bb U _ rfl rfl h6⟩
theorem cat_sum {bb : Nat × Nat} : ∀ (rest : List AV), ((rest.map (cv bb)).map fun v => v.category).sum ≤ 2 * rest.length
  | [] => by simp
  | v :: r => by
    have h := cat_sum (bb := bb) r
    have h2 : (cv bb v).category ≤ 2 := by rcases lv_cat (cv bb v) with e | e <;> rw [e] <;> decide
    simp only [List.map_cons, List.sum_cons, List.length_cons] at h ⊢
    omega
section EXC
variable {mi : MI} {R : Room} {Z : GE → Nat × Nat → List Frame → Array Value → State → State → Prop} {X : XT} {kc ks pc : Nat} {ls : List (Option AV)} {st : List AV} {sh : Sh} {Mr : MR} {M : MM}
theorem kn_of {E : GE} {bb : Nat × Nat} {p : Program} {s : State} {m : MethodId} {args : Array Value} {meth : Method} {c : Code} (F : Fix mi X E bb p s m args meth c) : KN s := ⟨fun w hw hn => va_Nw.of (by cases w <;> first | rfl | (simp [isNest] at hn)) (F.2.2.2.2.2.1 w hw (by simp [okW, hn])), F.2.2.2.2.2.2.2.2.2.2.1, F.2.2.2.2.2.2.2.2.2.2.2.1⟩
theorem pre_at {E : GE} {bb : Nat × Nat} {X' : XT} {p : Program} {s : State} {m : MethodId} {args : Array Value} {meth : Method} {c : Code} {H : Heap} {locs : List Loc} {As : List AV} (F : Fix mi X E bb p s m args meth c) (hX : XMove X X') (hP : va_P E.1 vwCl (wld E bb sh Mr M) H) (hS : va_S (Ab bb) s.heap H locs) (hz : H.size = bb.1 + sh.length) (U : State) (hU : U.heap = H) (hW : s.WarmedH U.vm) : CPre E bb X' As sh Mr M (As.map (cv bb)).toArray U :=
  ⟨rfl, by rw [hU]; exact hP, va_K.moved hW.alike F.2.2.2.2.2.2.2.2.1, by rw [hU]; exact hz, (kn_of F).warm hW, hX.2 bb s H U locs F.2.2.2.2.2.2.2.2.2.2.2.2 hS hU hW⟩
theorem run_post {E : GE} {bb : Nat × Nat} {p : Program} {l : Launch} {e : Env} {s : State} {m : MethodId} {args : Array Value} {below : List Frame} {meth : Method} {c : Code} {H : Heap} {locs : List Loc} {mc ms : Nat} {Q : Option AV → Sh → MR → MM → Prop} {Qf : State → Prop} {lsA : Array Slot} {st0 rest : List Value} {a : Array Value}
    (hr : va_Run p l e R s m args below meth c H locs kc ks mc ms (F0 m pc lsA st0) rest (CPost E bb mc sh Q a) (Ab bb)) (hS : va_S (Ab bb) s.heap H locs)
    (kk : ∀ (r : Option AV) (sh' : Sh) (Mr' : MR) (M' : MM) (H1 : Heap) (locs1 : List Loc), Q r sh' Mr' M' → sh'.length = sh.length + mc → va_P E.1 vwCl (wld E bb sh' Mr' M') H1 → va_S (Ab bb) s.heap H1 locs1 → W p l e R s m args below meth c H1 locs1 (kc + mc) (ks + ms) Qf (F0 m (pc + 3) lsA ((r.map (cv bb)).toList ++ rest))) : W p l e R s m args below meth c H locs kc ks Qf (F0 m pc lsA st0) := by
  intro T hT Y
  obtain ⟨v, st₀, t, T', L, h0, Y', hL, e1, e2, ⟨⟨r, sh', Mr', M', hv, hq, hlen, hp⟩, hz, hkk⟩, stp⟩ := hr T hT Y
  cases hv
  rw [h0] at hz hkk
  obtain ⟨t2, a1, b1⟩ := kk r sh' Mr' M' T'.heap (locs ++ L) hq hlen (by rw [e1]; exact hp)
    ⟨Nat.le_trans hS.1 (by rw [e1]; exact hz), fun q h1 h2 => by rw [e1, hkk q (Nat.lt_of_lt_of_le h1 hS.1) h2]; exact hS.2.1 q h1 h2, fun q hq => by
      rcases List.mem_append.mp hq with h | h
      · exact hS.2.2 q h
      · exact hL q h⟩ T' rfl Y'
  exact ⟨t2, stp t2 a1, b1⟩
theorem ex_callS {ce : MI} {X' : XT} {idx n mc ms : Nat} {As rest : List AV} {Q : Option AV → Sh → MR → MM → Prop} (d : decode mi.2.1 pc = .ok (.invokestatic idx, 3)) (hL : LKS mi.1.cls idx ce n) (hX : XMove X X') (hC : Ct ce X' As sh Mr M mc ms Q) (hn : As.length = n) (hst : st = As.reverse ++ rest) (hw : rest.length ≤ 4)
    (hR : ce.2.2.2.2.1 + 1 ≤ R.frames ∧ 8 + (ce.2.2.1 + 11) + ce.2.2.2.2.2 ≤ R.locals) (hf : kc + mc ≤ R.cells ∧ ks + ms ≤ R.slots) (k : ∀ r sh' Mr' M', Q r sh' Mr' M' → Ex mi R Z X (kc + mc) (ks + ms) (pc + 3) ls (r.toList ++ rest) sh' Mr' M') : Ex mi R Z X kc ks pc ls st sh Mr M := by
  intro l E bb p e s m args below meth c F H locs lsA hP hS hl hk
  subst hst
  refine W.szE hP hS F.2.2.2.2.2.2.2.2.2.1 hk fun hz => ?_
  obtain ⟨⟨hlk, hini, hcode, hd⟩, hsta⟩ := hL
  have hg := hts_gd F.2.2.2.2.2.1
  have S : CallFix p m c mi.2.1 mi.2.2.1 s args gdW mi.1.cls := ⟨F.1, F.2.1, F.2.2.2.1, F.2.2.2.2.1, hg⟩
  have hp : PreS s H (CPre E bb X' As sh Mr M) (As.map (cv bb)) := ⟨cpre_blind hX, fun U hU hW => pre_at F hX hP hS hz U hU hW⟩
  have hh := F.2.2.2.2.2.1
  have hstk : ((As.reverse ++ rest).map (cv bb)) = (As.map (cv bb)).reverse ++ rest.map (cv bb) := by simp
  have hw8 : 2 * (F0 m pc lsA ((As.reverse ++ rest).map (cv bb))).monitorRoom + ((rest.map (cv bb)).map fun v => v.category).sum ≤ 8 := lv_room (by have := cat_sum (bb := bb) rest; omega)
  have run : va_Run p l e R s m args below meth c H locs kc ks mc ms (F0 m pc lsA ((As.reverse ++ rest).map (cv bb))) (rest.map (cv bb)) (CPost E bb mc sh Q (As.map (cv bb)).toArray) (Ab bb) := by
    rcases hlk with hlk | ⟨host, hlk⟩
    · exact va_runS S (hC l E bb) ⟨callB_of n hg (good_in hcode) rfl rfl rfl (hh _ hini rfl) (hh _ hlk rfl) hd hR, hh _ hsta rfl⟩ hp rfl (by simp [hn]) hl.1 hstk hw8 d hf
    · exact va_runSN S (hC l E bb) ⟨va_cnB n hg (good_in hcode) rfl rfl rfl (va_Nw.of rfl (hh _ hlk rfl)) (hh _ hini rfl) hd hR, hh _ hsta rfl, trivial⟩ hp rfl (by simp [hn]) hl.1 hstk hw8 d hf
  refine run_post run hS fun r sh' Mr' M' H1 locs1 hq hlen hP1 hS1 => ?_
  have hgo := k r sh' Mr' M' hq l E bb p e s m args below meth c F H1 locs1 lsA hP1 hS1 hl (by omega)
  cases r <;> exact hgo
theorem ex_callV {ce : MI} {X' : XT} {idx n mc ms c0 ci z : Nat} {As rest : List AV} {Q : Option AV → Sh → MR → MM → Prop} (d : decode mi.2.1 pc = .ok (.invokevirtual idx, 3)) (hL : LKV mi.1.cls idx ce n) (hs : sh[c0]? = some (ci + 3, z)) (hcl : ∃ (T : u_T) (N : Nat), vwCl[ci]? = some (ce.1.cls, T, N)) (hX : XMove X X') (hC : Ct ce X' (.ref c0 :: As) sh Mr M mc ms Q) (hn : As.length = n) (hst : st = As.reverse ++ .ref c0 :: rest) (hw : rest.length ≤ 4)
    (hR : ce.2.2.2.2.1 + 1 ≤ R.frames ∧ 8 + (ce.2.2.1 + 11) + ce.2.2.2.2.2 ≤ R.locals) (hf : kc + mc ≤ R.cells ∧ ks + ms ≤ R.slots) (k : ∀ r sh' Mr' M', Q r sh' Mr' M' → Ex mi R Z X (kc + mc) (ks + ms) (pc + 3) ls (r.toList ++ rest) sh' Mr' M') : Ex mi R Z X kc ks pc ls st sh Mr M := by
  intro l E bb p e s m args below meth c F H locs lsA hP hS hl hk
  subst hst
  refine W.szE hP hS F.2.2.2.2.2.2.2.2.2.1 hk fun hz => ?_
  obtain ⟨⟨hlk, hini, hcode, hd⟩, hins, hsel⟩ := hL
  obtain ⟨T, N, hcl⟩ := hcl
  have hg := hts_gd F.2.2.2.2.2.1
  have S : CallFix p m c mi.2.1 mi.2.2.1 s args gdW mi.1.cls := ⟨F.1, F.2.1, F.2.2.2.1, F.2.2.2.2.1, hg⟩
  have hrecv := va_recv F.2.2.2.2.2.2.2.2.1 hP hcl (wld_at hs)
  have hp : PreV s H ce.1.cls (bb.1 + c0) (CPre E bb X' (.ref c0 :: As) sh Mr M) (As.map (cv bb)) := ⟨cpre_blind hX, hrecv, fun U hU hW => pre_at F hX hP hS hz U hU hW⟩
  have hh := F.2.2.2.2.2.1
  have hstk : ((As.reverse ++ .ref c0 :: rest).map (cv bb)) = (As.map (cv bb)).reverse ++ .ref (bb.1 + c0) :: rest.map (cv bb) := by simp [cv]
  have hw8 : 2 * (F0 m pc lsA ((As.reverse ++ .ref c0 :: rest).map (cv bb))).monitorRoom + ((rest.map (cv bb)).map fun v => v.category).sum ≤ 8 := lv_room (by have := cat_sum (bb := bb) rest; omega)
  have run : va_Run p l e R s m args below meth c H locs kc ks mc ms (F0 m pc lsA ((As.reverse ++ .ref c0 :: rest).map (cv bb))) (rest.map (cv bb)) (CPost E bb mc sh Q (Value.ref (bb.1 + c0) :: As.map (cv bb)).toArray) (Ab bb) := by
    rcases hlk with hlk | ⟨host, hlk⟩
    · exact va_runV S (hC l E bb) ⟨callB_of n hg (good_in hcode) rfl rfl rfl (hh _ hini rfl) (hh _ hlk rfl) hd hR, hh _ hins rfl, hh _ hsel rfl⟩ hp rfl (by simp [hn]) hl.1 hstk hw8 d hf
    · exact va_runVN S (hC l E bb) ⟨va_cnB n hg (good_in hcode) rfl rfl rfl (va_Nw.of rfl (hh _ hlk rfl)) (hh _ hini rfl) hd hR, hh _ hins rfl, hh _ hsel rfl⟩ hp rfl (by simp [hn]) hl.1 hstk hw8 d hf
  refine run_post run hS fun r sh' Mr' M' H1 locs1 hq hlen hP1 hS1 => ?_
  have hgo := k r sh' Mr' M' hq l E bb p e s m args below meth c F H1 locs1 lsA hP1 hS1 hl (by omega)
  cases r <;> exact hgo
theorem ex_callI {ce : MI} {X' : XT} {idx n mc ms c0 : Nat} {As rest : List AV} {Q : Option AV → Sh → MR → MM → Prop} (d : decode mi.2.1 pc = .ok (.invokespecial idx, 3)) (hL : LKI mi.1.cls idx ce n) (hr0 : ce.2.2.2.1 = none) (hX : XMove X X') (hC : Ct ce X' (.ref c0 :: As) sh Mr M mc ms Q) (hn : As.length = n) (hst : st = As.reverse ++ .ref c0 :: rest) (hw : rest.length ≤ 4)
    (hR : ce.2.2.2.2.1 + 1 ≤ R.frames ∧ 8 + (ce.2.2.1 + 11) + ce.2.2.2.2.2 ≤ R.locals) (hf : kc + mc ≤ R.cells ∧ ks + ms ≤ R.slots) (k : ∀ r sh' Mr' M', Q r sh' Mr' M' → Ex mi R Z X (kc + mc) (ks + ms) (pc + 3) ls (r.toList ++ rest) sh' Mr' M') : Ex mi R Z X kc ks pc ls st sh Mr M := by
  intro l E bb p e s m args below meth c F H locs lsA hP hS hl hk
  subst hst
  refine W.szE hP hS F.2.2.2.2.2.2.2.2.2.1 hk fun hz => ?_
  obtain ⟨⟨hlk, hini, hcode, hd⟩, hins, hnm⟩ := hL
  have hg := hts_gd F.2.2.2.2.2.1
  have S : CallFix p m c mi.2.1 mi.2.2.1 s args gdW mi.1.cls := ⟨F.1, F.2.1, F.2.2.2.1, F.2.2.2.2.1, hg⟩
  have hp : PreS s H (CPre E bb X' (.ref c0 :: As) sh Mr M) (.ref (bb.1 + c0) :: As.map (cv bb)) := ⟨cpre_blind hX, fun U hU hW => pre_at F hX hP hS hz U hU hW⟩
  have hh := F.2.2.2.2.2.1
  have hstk : ((As.reverse ++ .ref c0 :: rest).map (cv bb)) = (As.map (cv bb)).reverse ++ .ref (bb.1 + c0) :: rest.map (cv bb) := by simp [cv]
  have hw8 : 2 * (F0 m pc lsA ((As.reverse ++ .ref c0 :: rest).map (cv bb))).monitorRoom + ((rest.map (cv bb)).map fun v => v.category).sum ≤ 8 := lv_room (by have := cat_sum (bb := bb) rest; omega)
  have hgi : GoodIn gdW (.code ce.1 ce.2.1 ce.2.2.1 none :: gdW) := by have := good_in hcode; unfold wsOf at this; rw [hr0] at this; exact this
  have hM : Met l ce.1 (.code ce.1 ce.2.1 ce.2.2.1 none :: gdW) (rmOf ce mc ms) (CPre E bb X' (.ref c0 :: As) sh Mr M) (CPost E bb mc sh Q) mc ms (Ab bb) := by have := hC l E bb; unfold wsOf at this; rw [hr0] at this; exact this
  have run : va_Run p l e R s m args below meth c H locs kc ks mc ms (F0 m pc lsA ((As.reverse ++ .ref c0 :: rest).map (cv bb))) (rest.map (cv bb)) (CPost E bb mc sh Q (Value.ref (bb.1 + c0) :: As.map (cv bb)).toArray) (Ab bb) := by
    rcases hlk with hlk | ⟨host, hlk⟩
    · exact va_runI S hM ⟨callB_of n hg hgi rfl rfl rfl (hh _ hini rfl) (hh _ hlk rfl) hd hR, hnm, hh _ hins rfl⟩ hp rfl (by simp [hn]) hl.1 hstk hw8 d hf
    · exact va_runIN S hM ⟨va_cnB n hg hgi rfl rfl rfl (va_Nw.of rfl (hh _ hlk rfl)) (hh _ hini rfl) hd hR, hnm, hh _ hins rfl⟩ hp rfl (by simp [hn]) hl.1 hstk hw8 d hf
  refine run_post run hS fun r sh' Mr' M' H1 locs1 hq hlen hP1 hS1 => ?_
  have hgo := k r sh' Mr' M' hq l E bb p e s m args below meth c F H1 locs1 lsA hP1 hS1 hl (by omega)
  cases r <;> exact hgo
/-- the ends -/
theorem ex_iret {sh0 : Sh} {mc ms : Nat} {Q : Option AV → Sh → MR → MM → Prop} {v : Int32} {ty : FieldType} (d : decode mi.2.1 pc = .ok (.ireturn, 1)) (hr : mi.2.2.2.1 = some ty) (hn : narrow ty (.int v) = .int v) (hlen : sh.length = sh0.length + mc) (hq : Q (some (.int v)) sh Mr M) : Ex mi R (ZM sh0 mc ms Q) X mc ms pc ls [.int v] sh Mr M := by
  intro l E bb p e s m args below meth c F H locs lsA hP hS hl hk
  have hlocks := F.2.2.2.2.2.2.1
  exact W.zret F.1 F.2.1 (F.2.2.1.trans hr) hn (fun t ht hW => ⟨⟨some (.int v), sh, Mr, M, rfl, hq, hlen, by rw [ht]; exact hP⟩, hS.F ht⟩) hS.2.2 d hlocks
theorem ex_vret {sh0 : Sh} {mc ms : Nat} {Q : Option AV → Sh → MR → MM → Prop} (d : decode mi.2.1 pc = .ok (.return_, 1)) (hr : mi.2.2.2.1 = none) (hlen : sh.length = sh0.length + mc) (hq : Q none sh Mr M) : Ex mi R (ZM sh0 mc ms Q) X mc ms pc ls [] sh Mr M := by
  intro l E bb p e s m args below meth c F H locs lsA hP hS hl hk
  have hlocks := F.2.2.2.2.2.2.1
  exact W.vret F.1 F.2.1 (F.2.2.1.trans hr) (fun t ht hW => ⟨⟨none, sh, Mr, M, rfl, hq, hlen, by rw [ht]; exact hP⟩, hS.F ht⟩) hS.2.2 d hlocks
theorem lg_sl_len {bb : Nat × Nat} : ∀ (As : List AV), As.all (fun v => nl (some v)) = true → lg_sl (As.map (cv bb)) = (As.map (cv bb)).map Slot.val
  | [], _ => rfl
  | v :: r, h => by
    simp only [List.all_cons, Bool.and_eq_true] at h
    have ih := lg_sl_len (bb := bb) r h.2
    have hc := nl_cat (bb := bb) h.1
    simp only [lg_sl, List.map_cons, List.flatMap_cons, hc] at ih ⊢
    simp [ih]
theorem lv_args_mem {bb : Nat × Nat} : ∀ (As : List AV) (b i : Nat) (v : AV), As.all (fun v => nl (some v)) = true → As[i]? = some v → (b + i, cv bb v) ∈ lv_args b (As.map (cv bb))
  | [], b, i, v, _, h => by simp at h
  | w :: r, b, 0, v, ha, h => by
    have e : w = v := by simpa using h
    subst e
    exact List.mem_cons_self
  | w :: r, b, i + 1, v, ha, h => by
    simp only [List.all_cons, Bool.and_eq_true] at ha
    have hc := nl_cat (bb := bb) ha.1
    have h2 := lv_args_mem (bb := bb) r (b + 1) i v ha.2 (by simpa using h)
    simp only [List.map_cons, lv_args, hc]
    rw [show b + (i + 1) = b + 1 + i by omega]
    exact List.mem_cons_of_mem _ h2
theorem ct_of {args : List AV} {mc ms : Nat} {Q : Option AV → Sh → MR → MM → Prop} (hy : plainName mi.1.cls = true) (ha : args.all (fun v => nl (some v)) = true) (hn : args.length ≤ mi.2.2.1) (hls : args.map some ++ List.replicate (mi.2.2.1 - args.length) none = ls) (k : Ex mi (rmOf mi mc ms) (ZM sh mc ms Q) X 0 0 0 ls [] sh Mr M) : Ct mi X args sh Mr M mc ms Q := by
  intro l E bb
  refine Met.ofW (cc := mi.2.1) (maxL := mi.2.2.1) (ret := mi.2.2.2.1) hy rfl ?_
  intro p e s m a below meth c s₁ B hml hv
  obtain ⟨rfl, hP, hK, hsz, hN, hX⟩ := hv
  have hts := atoms_spec (ws := wsOf mi) B.pre
  have hh : ∀ w ∈ lw_tbl, okW w = true → w.before (args.map (cv bb)).toArray s = true := fun w hw ho => by
    by_cases hg : goodWord w = true
    · exact hts w (List.mem_cons_of_mem _ (List.mem_filter.mpr ⟨hw, hg⟩))
    · have hn : isNest w = true := by simpa [okW, hg] using ho
      exact va_Nw.use (by cases w <;> first | rfl | (simp [isNest] at hn)) (hN.1 w hw hn)
  have F : Fix mi X E bb p s m (args.map (cv bb)).toArray meth c := ⟨B.exec, B.bytes, B.returns, hml, findClass_of_methodNamed B.named, hh, B.notSynchronized, (name_of_methodNamed B.named B.method).1, hK, by omega, hN.2.1, hN.2.2, hX⟩
  have e1 := lg_sl_len (bb := bb) args ha
  have hl := lv_entry (args.map (cv bb)) (n := mi.2.2.1) (by rw [e1]; simpa using hn)
  rw [lg_entry_eq]
  generalize (lg_sl (args.map (cv bb)) ++ List.replicate (mi.2.2.1 - (lg_sl (args.map (cv bb))).length) Slot.unset).toArray = lsA at hl ⊢
  refine k l E bb p e s m _ below meth c F s.heap [] lsA hP va_S.rf ⟨hl.1, hl.2.1, fun q hq => hl.2.2 q ?_⟩ (by omega)
  obtain ⟨i, v, h1, rfl⟩ := mem_lvl _ _ _ hq
  rw [← hls] at h1
  have h2 : args[i]? = some v := by
    by_cases hi : i < args.length
    · rw [List.getElem?_append_left (by simpa using hi), List.getElem?_map] at h1
      cases hz : args[i]? with
      | none => rw [hz] at h1; cases h1
      | some w => rw [hz] at h1; simpa using h1
    · rw [List.getElem?_append_right (by simpa using hi)] at h1
      have := List.eq_of_mem_replicate (List.mem_of_getElem? h1)
      cases this
  exact lv_args_mem args 0 i v ha h2
end EXC
