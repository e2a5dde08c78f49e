/-! new cells, Object's constructor, Math.max, System.arraycopy -/
def NC (own : String) (idx ci : Nat) : Prop := ∃ (C : String) (T : u_T) (N : Nat), vwCl[ci]? = some (C, T, N) ∧ Cond.classLink own idx C ∈ lw_tbl ∧ Cond.instantiable C N ∈ lw_tbl ∧ Cond.initialized C ∈ lw_tbl
section EXN
variable {mi : MI} {R : Room} {Z : GE → Nat × Nat → List Frame → Array Value → State → State → Prop} {X : XT} {kc ks pc : Nat} {ls : List (Option AV)} {st : List AV} {sh : Sh} {Mr : MR} {M : MM}
theorem ex_new {idx ci : Nat} (d : decode mi.2.1 pc = .ok (.new idx, 3)) (hN : NC mi.1.cls idx ci) (hf : kc + 1 ≤ R.cells ∧ ks + (fR.getD ci []).length ≤ R.slots) (k : Ex mi R Z X (kc + 1) (ks + (fR.getD ci []).length) (pc + 3) ls (.ref sh.length :: st) (sh ++ [(ci + 3, 0)]) (clrR Mr sh.length) (clr M sh.length)) : Ex mi R Z X kc ks pc ls st sh Mr M := by
  intro l E bb p e s m args below meth c F H locs lsA hP hS hl hk
  obtain ⟨C, T, N, h1, h2, h3, h4⟩ := hN
  have hg := hts_gd F.2.2.2.2.2.1
  obtain ⟨hin0, ty0, q1, q2, q3, q4⟩ := cl_ok ci _ h1
  have q3 : N = (fR.getD ci []).length := q3
  have hh := F.2.2.2.2.2.1
  refine va_new (ci := ci) (fs := flds bb (clrR Mr sh.length) (clr M sh.length) sh.length ci) F.1 F.2.1 hg (ws_gd hin0) ty0 q1 F.2.2.2.2.1 (hh _ h2 rfl) (hh _ h3 rfl) (hh _ h4 rfl) F.2.2.2.2.2.2.2.2.1 hP wld_D hS (fun q hq => Nat.le_trans F.2.2.2.2.2.2.2.2.2.1 hq) h1 ?_ hf.1 (by rw [q3]; exact hf.2) d (fun q H1 g1 g2 g3 => ?_)
  · intro j hj
    unfold vp_V
    rw [List.getD_eq_getElem?_getD]
    rcases q4 j hj with ⟨z1, z2⟩ | ⟨z1, z2, -⟩
    · rw [flds_I z1, z2]; simp [clr]; rfl
    · rw [flds_R z1, z2]; simp [clrR, va_rf]
  · refine W.sz fun hz => ?_
    have hq := pig g1 g2 (by omega)
    subst hq
    rw [wld_push (x := .inr (ci, flds bb (clrR Mr sh.length) (clr M sh.length) sh.length ci)) (q := (ci + 3, 0)) rfl] at g1
    have hgo := k l E bb p e s m args below meth c F H1 locs lsA g1 g3 hl (by simp; omega)
    rw [← q3] at hgo
    exact hgo
theorem ex_newa {n : Nat} {x : Int32} (d : decode mi.2.1 pc = .ok (.newarray .int, 2)) (hw : Cond.arrayClass .int ∈ lw_tbl) (hx : x = nI n) (hn : n ≤ 1000) (hf : kc + 1 ≤ R.cells ∧ ks + n ≤ R.slots) (k : Ex mi R Z X (kc + 1) (ks + n) (pc + 2) ls (.ref sh.length :: st) (sh ++ [(0, n)]) (clrR Mr sh.length) (clr M sh.length)) : Ex mi R Z X kc ks pc ls (.int x :: st) sh Mr M := by
  intro l E bb p e s m args below meth c F H locs lsA hP hS hl hk
  subst hx
  have hh := F.2.2.2.2.2.1
  refine va_newa (atype := .int) (a0 := (n, .inl (fun _ => 0))) (ty := .int) F.1 F.2.1 (hh _ hw rfl) rfl F.2.2.2.2.2.2.2.2.1 hP wld_D hS (fun q hq => Nat.le_trans F.2.2.2.2.2.2.2.2.2.1 hq) (fun cA => rfl) (nI_pos (by omega)) (nI_clamp (by omega)) (by simp [componentBytes]; omega) hf.1 hf.2 d (fun q cA H1 gK g1 g2 g3 => ?_)
  refine W.sz fun hz => ?_
  have hcA : cA = E.2.1 := by
    have a1 := (gK.2 3 (cA, .int) rfl).2
    have a2 := (gK.2 0 (E.2.1, .int) rfl).2
    exact Option.some.inj (a1.symm.trans a2)
  subst hcA
  have hq := pig g1 g2 (by omega)
  subst hq
  rw [wld_push (q := (0, n)) (by simp only [cellV]; congr 4; funext j; simp [clr])] at g1
  exact k l E bb p e s m args below meth c F H1 locs lsA g1 g3 hl (by simp; omega)
theorem ex_newq {idx n : Nat} {x : Int32} (d : decode mi.2.1 pc = .ok (.anewarray idx, 3)) (hc : Cond.classLink mi.1.cls idx RX7 ∈ lw_tbl) (hx : x = nI n) (hn : n ≤ 1000) (hf : kc + 1 ≤ R.cells ∧ ks + n ≤ R.slots) (k : Ex mi R Z X (kc + 1) (ks + n) (pc + 3) ls (.ref sh.length :: st) (sh ++ [(1, n)]) (clrR Mr sh.length) (clr M sh.length)) : Ex mi R Z X kc ks pc ls (.int x :: st) sh Mr M := by
  intro l E bb p e s m args below meth c F H locs lsA hP hS hl hk
  subst hx
  have hh := F.2.2.2.2.2.1
  refine va_newq (C := RX7) F.1 F.2.1 F.2.2.2.2.1 (hh _ hc rfl) F.2.2.2.2.2.2.2.2.2.2.1 F.2.2.2.2.2.2.2.2.1 hP wld_D hS (fun q hq => Nat.le_trans F.2.2.2.2.2.2.2.2.2.1 hq) (nI_pos (by omega)) (nI_clamp (by omega)) (by omega) hf.1 hf.2 d (fun q cA H1 gK g1 g2 g3 => ?_)
  refine W.sz fun hz => ?_
  have hcA : cA = E.2.2.1 := by
    obtain ⟨_, _, _, _, _, a1⟩ := (gK.2 3 (cA, .object RX7) rfl).2
    obtain ⟨_, _, _, _, _, a2⟩ := (gK.2 1 (E.2.2.1, .object RX7) rfl).2
    exact Option.some.inj (a1.symm.trans a2)
  subst hcA
  have hq := pig g1 g2 (by omega)
  subst hq
  rw [wld_push (q := (1, n)) (by simp only [cellV]; congr 7; funext j; simp [clrR])] at g1
  exact k l E bb p e s m args below meth c F H1 locs lsA g1 g3 hl (by simp; omega)
theorem ex_objInit {idx c0 : Nat} (d : decode mi.2.1 pc = .ok (.invokespecial idx, 3)) (hl0 : Cond.methodLink mi.1.cls idx Lib.objectInit ∈ lw_tbl) (hi0 : Cond.instanceMethod Lib.objectInit ∈ lw_tbl) (hc0 : Cond.code Lib.objectInit ⟨#[0xb1]⟩ 1 none ∈ lw_tbl) (hR : 1 ≤ R.frames ∧ 20 ≤ R.locals) (hw : st.length ≤ 4) (k : Ex mi R Z X kc ks (pc + 3) ls st sh Mr M) : Ex mi R Z X kc ks pc ls (.ref c0 :: st) sh Mr M := by
  intro l E bb p e s m args below meth c F H locs lsA hP hS hl hk
  have hh := F.2.2.2.2.2.1
  have hw8 : 2 * (F0 m pc lsA (((.ref c0 :: st)).map (cv bb))).monitorRoom + ((st.map (cv bb)).map fun v => v.category).sum ≤ 8 := lv_room (by have := cat_sum (bb := bb) st; omega)
  exact W.objInit F.1 F.2.1 F.2.2.2.2.1 (hh _ hl0 rfl) (hh _ hi0 rfl) (hh _ hc0 rfl) rfl (hl.1.trans F.2.2.2.1.symm) rfl d hR.1 (by omega) (k l E bb p e s m args below meth c F H locs lsA hP hS hl hk)
theorem ex_copy {idx c0 c1 n0 n1 sp dp n : Nat} {xs xd xn : Int32} (d : decode mi.2.1 pc = .ok (.invokestatic idx, 3)) (hl0 : Cond.methodLink mi.1.cls idx arraycopyName ∈ lw_tbl) (hn0 : Cond.native arraycopyName ∈ lw_tbl) (hs0 : Cond.static arraycopyName ∈ lw_tbl) (hi0 : Cond.initialized "java/lang/System" ∈ lw_tbl)
    (h0 : sh[c0]? = some (0, n0)) (h1 : sh[c1]? = some (0, n1)) (e1 : xs = nI sp) (e2 : xd = nI dp) (e3 : xn = nI n) (b1 : sp + n ≤ n0) (b2 : dp + n ≤ n1) (hb : n0 < 2 ^ 31 ∧ n1 < 2 ^ 31) (hR : 1 ≤ R.frames ∧ 60 ≤ R.locals) (hw : st.length ≤ 4) (hbig : nativeFrameWords "java/lang/System" "arraycopy" 5 ≤ 40)
    (k : Ex mi R Z X kc ks (pc + 3) ls st sh Mr (fun c2 j => if c2 = c1 ∧ dp ≤ j ∧ j < dp + n then M c0 (sp + (j - dp)) else M c2 j)) : Ex mi R Z X kc ks pc ls (.int xn :: .int xd :: .ref c1 :: .int xs :: .ref c0 :: st) sh Mr M := by
  intro l E bb p e s m args below meth c F H locs lsA hP hS hl hk
  subst e1; subst e2; subst e3
  have hh := F.2.2.2.2.2.1
  have hsum := cat_sum (bb := bb) st
  refine va_copyi F.1 F.2.1 (F.2.2.2.1.trans hl.1.symm) F.2.2.2.2.1 (hh _ hl0 rfl) (hh _ hn0 rfl) (hh _ hs0 rfl) (hh _ hi0 rfl) F.2.2.2.2.2.2.2.2.1 hP wld_D hS c0 c1 0 0 (ty := .int) (wld_at h0) (wld_at h1) rfl rfl rfl (nI_pos (by omega)) (nI_pos (by omega)) (nI_pos (by omega)) (by rw [nI_clamp (by omega), nI_clamp (by omega)]; exact b1) (by rw [nI_clamp (by omega), nI_clamp (by omega)]; exact b2) (fun i _ => rfl) hR.1 (by omega) d (fun H1 locs1 g1 g2 g3 => ?_)
  rw [wld_set (Mr' := Mr) (M' := fun c2 j => if c2 = c1 ∧ dp ≤ j ∧ j < dp + n then M c0 (sp + (j - dp)) else M c2 j) h1 (by
    simp only [cellV]
    congr 4
    funext j
    rw [nI_clamp (by omega), nI_clamp (by omega), nI_clamp (by omega)]
    simp [va_cpy]) (fun c2 q2 hc => cell_ne rfl (by funext j; simp [hc]) q2)] at g1
  exact k l E bb p e s m args below meth c F H1 locs1 lsA g1 g3 hl hk
theorem ex_max {idx : Nat} {x y : Int32} (d : decode mi.2.1 pc = .ok (.invokestatic idx, 3)) (hl0 : Cond.methodLink mi.1.cls idx Lib.Math.max.name ∈ lw_tbl) (hs0 : Cond.static Lib.Math.max.name ∈ lw_tbl) (hi0 : Cond.initialized "java/lang/Math" ∈ lw_tbl) (hc0 : Cond.code Lib.Math.max.name Lib.Math.max.code 2 (some .int) ∈ lw_tbl) (hR : 1 ≤ R.frames ∧ 21 ≤ R.locals) (hcs : kc ≤ R.cells ∧ ks ≤ R.slots) (hw : st.length ≤ 4) (k : Ex mi R Z X kc ks (pc + 3) ls (.int (if x < y then y else x) :: st) sh Mr M) : Ex mi R Z X kc ks pc ls (.int y :: .int x :: st) sh Mr M := by
  intro l E bb p e s m args below meth c F H locs lsA hP hS hl hk
  have hh := F.2.2.2.2.2.1
  have hsum := cat_sum (bb := bb) st
  exact va_mmax F.1 F.2.1 (F.2.2.2.1.trans hl.1.symm) F.2.2.2.2.1 (hh _ hl0 rfl) (hh _ hs0 rfl) (hh _ hi0 rfl) (hh _ hc0 rfl) hR.1 (by omega) hcs.1 hcs.2 d (k l E bb p e s m args below meth c F H locs lsA hP hS hl hk)
end EXN
