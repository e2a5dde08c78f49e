/-! THE ABSTRACT MACHINE: cells have numbers 0, 1, ..; cell k lies at bb.1 + k. sh: their shapes, Mr: their references, M: their ints. -/
abbrev AV : Type := Value
abbrev MI : Type := MethodName × ByteArray × Nat × Option FieldType × Nat × Nat
abbrev GE : Type := va_G × ClassId × ClassId × ClassId
abbrev Sh : Type := List (Nat × Nat)
abbrev MR : Type := Nat → Nat → Option Nat
abbrev MM : Type := Nat → Nat → Int32
abbrev XT : Type := Nat × Nat → State → Prop
def isNest (w : Cond) : Bool := match w with
  | .fieldLinkNest _ _ _ _ _ _ => true
  | .methodLinkNest _ _ _ _ => true
  | _ => false
def okW (w : Cond) : Bool := goodWord w || isNest w
def gdW : List Cond := lw_tbl.filter goodWord
/-- which fields of a kind are references -/
def fR : List (List Bool) := [[true, true, true, false], [false, true, true, true, true, true, false, true, true, true, true, false], [true, false], [true, true, false], [true, false, false], [true], [true, true, true, false], [false, true, true, true, false], [true, true, true, true, true, true, true, true, true, true, true], [false, true, false, true, true, false, true, false, true, false, true, false, true, true, false, false, true, false, true, false, true, true, false, true, true, false, true, true, true, true]]
def cv (bb : Nat × Nat) : AV → Value := fun v => match v with
  | .ref k => .ref (bb.1 + k)
  | .float _ => .ref bb.2
  | .int x => .int x
  | .long x => .long x
  | .double x => .double x
  | .null => .null
  | .retAddr x => .retAddr x
def tysE (E : GE) : List (ClassId × FieldType) := [(E.2.1, .int), (E.2.2.1, .object RX7), (E.2.2.2, .array .int)]
def flds (bb : Nat × Nat) (Mr : MR) (M : MM) (c : Nat) (ci : Nat) : List Value := (fR.getD ci []).mapIdx (fun j b => if b then va_rf ((Mr c j).map (fun q => bb.1 + q)) else .int (M c j))
def cellV (E : GE) (bb : Nat × Nat) (Mr : MR) (M : MM) (c : Nat) (q : Nat × Nat) : va_E := match q.1 with
  | 0 => .inl (E.2.1, q.2, .inl (M c))
  | 1 => .inl (E.2.2.1, q.2, .inr (.inr (.inr (.inr (fun j => (Mr c j).map (fun q => bb.1 + q))))))
  | 2 => .inl (E.2.2.2, q.2, .inr (.inr (.inr (.inr (fun j => (Mr c j).map (fun q => bb.1 + q))))))
  | k + 3 => .inr (k, flds bb Mr M c k)
def wld (E : GE) (bb : Nat × Nat) (sh : Sh) (Mr : MR) (M : MM) : va_W := sh.mapIdx (fun c q => (bb.1 + c, cellV E bb Mr M c q))
def Ab (bb : Nat × Nat) : Nat → Prop := fun q => bb.1 ≤ q
def wr (M : MM) (c i : Nat) (x : Int32) : MM := fun c2 j => if c2 = c then (if j = i then x else M c j) else M c2 j
def wrR (Mr : MR) (c i : Nat) (x : Option Nat) : MR := fun c2 j => if c2 = c then (if j = i then x else Mr c j) else Mr c2 j
def lvl (bb : Nat × Nat) : Nat → List (Option AV) → List (Nat × Value)
  | _, [] => []
  | i, none :: r => lvl bb (i + 1) r
  | i, some v :: r => (i, cv bb v) :: lvl bb (i + 1) r
def LH (bb : Nat × Nat) (nL : Nat) (lsA : Array Slot) (ls : List (Option AV)) : Prop := lv_has lsA nL (lvl bb 0 ls)
def Fix (mi : MI) (X : XT) (E : GE) (bb : Nat × Nat) (p : Program) (s : State) (m : MethodId) (args : Array Value) (meth : Method) (c : Code) : Prop :=
  p.tables.exec = Jvm.exec ∧ c.code = mi.2.1 ∧ meth.sig.returnType = mi.2.2.2.1 ∧ c.maxLocals = mi.2.2.1 ∧ s.vm.findClass mi.1.cls = some m.cls ∧ (∀ w ∈ lw_tbl, okW w = true → w.before args s = true) ∧ meth.locks = false ∧ meth.name = mi.1.name ∧ va_K E.1 vwCl (tysE E) s ∧ bb.1 ≤ s.heap.size ∧ va_AO RX7 s ∧ va_AOA .int s ∧ X bb s
/-- the judgement: from this abstract state of this method the machine comes to Z -/
def Ex (mi : MI) (R : Room) (Z : GE → Nat × Nat → List Frame → Array Value → State → State → Prop) (X : XT) (kc ks pc : Nat) (ls : List (Option AV)) (st : List AV) (sh : Sh) (Mr : MR) (M : MM) : Prop :=
  ∀ (l : Launch) (E : GE) (bb : Nat × Nat) (p : Program) (e : Env) (s : State) (m : MethodId) (args : Array Value) (below : List Frame) (meth : Method) (c : Code), Fix mi X E bb p s m args meth c →
    ∀ (H : Heap) (locs : List Loc) (lsA : Array Slot), va_P E.1 vwCl (wld E bb sh Mr M) H → va_S (Ab bb) s.heap H locs → LH bb mi.2.2.1 lsA ls → s.heap.size + kc = bb.1 + sh.length →
      W p l e R s m args below meth c H locs kc ks (Z E bb below args s) (F0 m pc lsA (st.map (cv bb)))
def rmOf (mi : MI) (mc ms : Nat) : Room := { frames := mi.2.2.2.2.1, cells := mc, slots := ms, locals := mi.2.2.2.2.2 }
def wsOf (mi : MI) : List Cond := .code mi.1 mi.2.1 mi.2.2.1 mi.2.2.2.1 :: gdW
/-- what is carried into a call: the nest's words, the arrays' classes -/
def KN (U : State) : Prop := (∀ w ∈ lw_tbl, isNest w = true → va_Nw w U) ∧ va_AO RX7 U ∧ va_AOA .int U
def CPre (E : GE) (bb : Nat × Nat) (X : XT) (args : List AV) (sh : Sh) (Mr : MR) (M : MM) : Array Value → State → Prop := va_Pc (args.map (cv bb)) (fun U => va_P E.1 vwCl (wld E bb sh Mr M) U.heap ∧ va_K E.1 vwCl (tysE E) U ∧ U.heap.size = bb.1 + sh.length ∧ KN U ∧ X bb U)
def CPost (E : GE) (bb : Nat × Nat) (mc : Nat) (sh0 : Sh) (Q : Option AV → Sh → MR → MM → Prop) : Array Value → State → Outcome → State → Prop := fun _ st o t =>
  (∃ (r : Option AV) (sh : Sh) (Mr : MR) (M : MM), o = .returned (r.map (cv bb)) ∧ Q r sh Mr M ∧ sh.length = sh0.length + mc ∧ va_P E.1 vwCl (wld E bb sh Mr M) t.heap) ∧ va_F (Ab bb) st t
def ZM (sh0 : Sh) (mc ms : Nat) (Q : Option AV → Sh → MR → MM → Prop) : GE → Nat × Nat → List Frame → Array Value → State → State → Prop := fun E bb below args s => MQ below (CPost E bb mc sh0 Q) args s mc ms (Ab bb)
/-- a method's contract at these arguments and this heap -/
def Ct (mi : MI) (X : XT) (args : List AV) (sh : Sh) (Mr : MR) (M : MM) (mc ms : Nat) (Q : Option AV → Sh → MR → MM → Prop) : Prop := ∀ (l : Launch) (E : GE) (bb : Nat × Nat), Met l mi.1 (wsOf mi) (rmOf mi mc ms) (CPre E bb X args sh Mr M) (CPost E bb mc sh Q) mc ms (Ab bb)
def XTr : XT := fun _ _ => True


theorem wld_at {E : GE} {bb : Nat × Nat} {sh : Sh} {Mr : MR} {M : MM} {c : Nat} {q : Nat × Nat} (h : sh[c]? = some q) : (wld E bb sh Mr M)[c]? = some (bb.1 + c, cellV E bb Mr M c q) := by
  unfold wld
  rw [List.getElem?_mapIdx, h]
  rfl
theorem wld_D {E : GE} {bb : Nat × Nat} {sh : Sh} {Mr : MR} {M : MM} : va_D (Ab bb) (wld E bb sh Mr M) := by
  have key : ∀ (i : Nat) (q : Nat × va_E), (wld E bb sh Mr M)[i]? = some q → q.1 = bb.1 + i := by
    intro i q h
    unfold wld at h
    rw [List.getElem?_mapIdx] at h
    cases hs : sh[i]? with
    | none => rw [hs] at h; cases h
    | some z => rw [hs] at h; cases h; rfl
  refine ⟨fun i j p q hi hj hpq => ?_, fun k q hk => ?_⟩
  · have h1 := key i p hi
    have h2 := key j q hj
    omega
  · have h1 := key k q hk
    show bb.1 ≤ q.1
    omega
theorem wld_set {E : GE} {bb : Nat × Nat} {sh : Sh} {Mr Mr' : MR} {M M' : MM} {c : Nat} {q : Nat × Nat} {x : va_E} (h : sh[c]? = some q) (hx : x = cellV E bb Mr' M' c q) (ho : ∀ c2 q2, c2 ≠ c → cellV E bb Mr' M' c2 q2 = cellV E bb Mr M c2 q2) : (wld E bb sh Mr M).set c (bb.1 + c, x) = wld E bb sh Mr' M' := by
  apply List.ext_getElem?
  intro i
  by_cases hi : i = c
  · subst hi
    rw [List.getElem?_set_self (by unfold wld; rw [List.length_mapIdx]; exact (List.getElem?_eq_some_iff.mp h).1), wld_at h, hx]
  · rw [List.getElem?_set_ne (Ne.symm hi)]
    unfold wld
    rw [List.getElem?_mapIdx, List.getElem?_mapIdx]
    cases hs : sh[i]? with
    | none => rfl
    | some z => simp only [Option.map_some]; rw [ho i z hi]
theorem cell_ne {E : GE} {bb : Nat × Nat} {Mr Mr' : MR} {M M' : MM} {c : Nat} (h1 : Mr' c = Mr c) (h2 : M' c = M c) (q : Nat × Nat) : cellV E bb Mr' M' c q = cellV E bb Mr M c q := by
  obtain ⟨a, b⟩ := q
  match a with
  | 0 => simp only [cellV, h2]
  | 1 => simp only [cellV, h1]
  | 2 => simp only [cellV, h1]
  | k + 3 => simp only [cellV, flds, h1, h2]
theorem wr_oc {M : MM} {c i c2 : Nat} {x : Int32} (h : c2 ≠ c) : wr M c i x c2 = M c2 := by
  funext j
  simp [wr, h]
theorem wrR_oc {M : MR} {c i c2 : Nat} {x : Option Nat} (h : c2 ≠ c) : wrR M c i x c2 = M c2 := by
  funext j
  simp [wrR, h]
theorem wr_s {M : MM} {c i : Nat} {x : Int32} : wr M c i x c i = x := by simp [wr]
theorem wr_oi {M : MM} {c i j : Nat} {x : Int32} (h : j ≠ i) : wr M c i x c j = M c j := by simp [wr, h]
theorem wrR_s {M : MR} {c i : Nat} {x : Option Nat} : wrR M c i x c i = x := by simp [wrR]
theorem wrR_oi {M : MR} {c i j : Nat} {x : Option Nat} (h : j ≠ i) : wrR M c i x c j = M c j := by simp [wrR, h]
theorem flds_len (bb : Nat × Nat) (Mr : MR) (M : MM) (c ci : Nat) : (flds bb Mr M c ci).length = (fR.getD ci []).length := by simp [flds]
theorem flds_I {bb : Nat × Nat} {Mr : MR} {M : MM} {c ci k : Nat} (h : (fR.getD ci [])[k]? = some false) : (flds bb Mr M c ci)[k]? = some (.int (M c k)) := by
  unfold flds
  rw [List.getElem?_mapIdx, h]
  rfl
theorem flds_R {bb : Nat × Nat} {Mr : MR} {M : MM} {c ci k : Nat} (h : (fR.getD ci [])[k]? = some true) : (flds bb Mr M c ci)[k]? = some (va_rf ((Mr c k).map (fun q => bb.1 + q))) := by
  unfold flds
  rw [List.getElem?_mapIdx, h]
  rfl
theorem flds_setI {bb : Nat × Nat} {Mr : MR} {M : MM} {c ci k : Nat} {x : Int32} (h : (fR.getD ci [])[k]? = some false) : (flds bb Mr M c ci).set k (.int x) = flds bb Mr (wr M c k x) c ci := by
  apply List.ext_getElem?
  intro i
  by_cases hi : i = k
  · subst hi
    rw [List.getElem?_set_self (by rw [flds_len]; exact (List.getElem?_eq_some_iff.mp h).1), flds_I h, wr_s]
  · rw [List.getElem?_set_ne (Ne.symm hi)]
    unfold flds
    rw [List.getElem?_mapIdx, List.getElem?_mapIdx]
    cases hs : (fR.getD ci [])[i]? with
    | none => rfl
    | some z => simp only [Option.map_some]; rw [wr_oi hi]
theorem flds_setR {bb : Nat × Nat} {Mr : MR} {M : MM} {c ci k : Nat} {x : Option Nat} (h : (fR.getD ci [])[k]? = some true) : (flds bb Mr M c ci).set k (va_rf (x.map (fun q => bb.1 + q))) = flds bb (wrR Mr c k x) M c ci := by
  apply List.ext_getElem?
  intro i
  by_cases hi : i = k
  · subst hi
    rw [List.getElem?_set_self (by rw [flds_len]; exact (List.getElem?_eq_some_iff.mp h).1), flds_R h, wrR_s]
  · rw [List.getElem?_set_ne (Ne.symm hi)]
    unfold flds
    rw [List.getElem?_mapIdx, List.getElem?_mapIdx]
    cases hs : (fR.getD ci [])[i]? with
    | none => rfl
    | some z => simp only [Option.map_some]; rw [wrR_oi hi]
theorem lvl_mem {bb : Nat × Nat} : ∀ (ls : List (Option AV)) (b i : Nat) (v : AV), ls[i]? = some (some v) → (b + i, cv bb v) ∈ lvl bb b ls
  | [], b, i, v, h => by simp at h
  | none :: r, b, 0, v, h => by simp at h
  | none :: r, b, i + 1, v, h => by
    have h2 := lvl_mem (bb := bb) r (b + 1) i v (by simpa using h)
    rw [show b + (i + 1) = b + 1 + i by omega]
    exact h2
  | some w :: r, b, 0, v, h => by
    have e : w = v := by simpa using h
    subst e
    exact List.mem_cons_self
  | some w :: r, b, i + 1, v, h => by
    have h2 := lvl_mem (bb := bb) r (b + 1) i v (by simpa using h)
    rw [show b + (i + 1) = b + 1 + i by omega]
    exact List.mem_cons_of_mem _ h2
theorem mem_lvl {bb : Nat × Nat} : ∀ (ls : List (Option AV)) (b : Nat) (q : Nat × Value), q ∈ lvl bb b ls → ∃ i v, ls[i]? = some (some v) ∧ q = (b + i, cv bb v)
  | [], b, q, h => by cases h
  | none :: r, b, q, h => by
    obtain ⟨i, v, h1, h2⟩ := mem_lvl (bb := bb) r (b + 1) q h
    exact ⟨i + 1, v, by simpa using h1, by rw [h2]; congr 1; omega⟩
  | some w :: r, b, q, h => by
    rcases List.mem_cons.mp h with h | h
    · exact ⟨0, w, rfl, h⟩
    · obtain ⟨i, v, h1, h2⟩ := mem_lvl (bb := bb) r (b + 1) q h
      exact ⟨i + 1, v, by simpa using h1, by rw [h2]; congr 1; omega⟩
theorem LH_get {bb : Nat × Nat} {nL : Nat} {lsA : Array Slot} {ls : List (Option AV)} (h : LH bb nL lsA ls) {i : Nat} {v : AV} (hi : ls[i]? = some (some v)) : lsA[i]? = some (.val (cv bb v)) := by
  have := h.2.2 _ (lvl_mem (bb := bb) ls 0 i v hi)
  simpa using this
/-- not a long -/
def nl : Option AV → Bool := fun v => match v with
  | some (.long _) => false
  | some (.double _) => false
  | _ => true
theorem nl_cat {bb : Nat × Nat} {v : AV} (h : nl (some v) = true) : (cv bb v).category = 1 := by
  cases v <;> first | rfl | (simp [nl] at h)
/-- the place before i holds no long -/
def nlb (ls : List (Option AV)) (i : Nat) : Bool := match i with
  | 0 => true
  | j + 1 => nl (ls.getD j none)
theorem LH_store {bb : Nat × Nat} {nL : Nat} {lsA : Array Slot} {ls : List (Option AV)} {i : Nat} {v : AV} (hb : nlb ls i = true)
    (h : lv_has lsA nL ((i, cv bb v) :: (lvl bb 0 ls).filter (fun q => !(q.1 == i) && !(q.1 + 1 == i && q.2.category == 2)))) : LH bb nL lsA (ls.set i (some v)) := by
  refine ⟨h.1, h.2.1, fun q hq => h.2.2 q ?_⟩
  obtain ⟨j, w, h1, rfl⟩ := mem_lvl _ _ _ hq
  by_cases hj : j = i
  · subst hj
    have hlt : j < ls.length := by
      have := (List.getElem?_eq_some_iff.mp h1).1
      simpa using this
    rw [List.getElem?_set_self hlt] at h1
    cases h1
    rw [Nat.zero_add]
    exact List.mem_cons_self
  · rw [List.getElem?_set_ne (Ne.symm hj)] at h1
    refine List.mem_cons_of_mem _ (List.mem_filter.mpr ⟨lvl_mem ls 0 j w h1, ?_⟩)
    rw [Nat.zero_add]
    have e1 : (j == i) = false := by simpa using hj
    simp only [e1, Bool.not_false, Bool.true_and]
    by_cases h2 : j + 1 = i
    · subst h2
      have h3 : nl (some w) = true := by
        have : nl (ls.getD j none) = true := hb
        rw [List.getD_eq_getElem?_getD, h1] at this
        exact this
      rw [nl_cat h3]
      simp
    · have e2 : (j + 1 == i) = false := by simpa using h2
      simp [e2]
theorem LH_storeL {bb : Nat × Nat} {nL : Nat} {lsA : Array Slot} {ls : List (Option AV)} {i : Nat} {v : AV} (hb : nlb ls i = true)
    (h : lv_has lsA nL ((i, cv bb v) :: (lvl bb 0 ls).filter (fun q => !(q.1 == i) && (!(q.1 == i + 1) && !(q.1 + 1 == i && q.2.category == 2))))) : LH bb nL lsA ((ls.set i (some v)).set (i + 1) none) := by
  refine ⟨h.1, h.2.1, fun q hq => h.2.2 q ?_⟩
  obtain ⟨j, w, h1, rfl⟩ := mem_lvl _ _ _ hq
  have hj1 : j ≠ i + 1 := by
    intro e
    subst e
    have hlt : i + 1 < (ls.set i (some v)).length := by
      have := (List.getElem?_eq_some_iff.mp h1).1
      simpa using this
    rw [List.getElem?_set_self hlt] at h1
    cases h1
  rw [List.getElem?_set_ne (Ne.symm hj1)] at h1
  by_cases hj : j = i
  · subst hj
    have hlt : j < ls.length := by
      have := (List.getElem?_eq_some_iff.mp h1).1
      simpa using this
    rw [List.getElem?_set_self hlt] at h1
    cases h1
    rw [Nat.zero_add]
    exact List.mem_cons_self
  · rw [List.getElem?_set_ne (Ne.symm hj)] at h1
    refine List.mem_cons_of_mem _ (List.mem_filter.mpr ⟨lvl_mem ls 0 j w h1, ?_⟩)
    rw [Nat.zero_add]
    have e1 : (j == i) = false := by simpa using hj
    have e3 : (j == i + 1) = false := by simpa using hj1
    simp only [e1, e3, Bool.not_false, Bool.true_and]
    by_cases h2 : j + 1 = i
    · subst h2
      have h3 : nl (some w) = true := by
        have : nl (ls.getD j none) = true := hb
        rw [List.getD_eq_getElem?_getD, h1] at this
        exact this
      rw [nl_cat h3]
      simp
    · have e2 : (j + 1 == i) = false := by simpa using h2
      simp [e2]

section EX
variable {mi : MI} {R : Room} {Z : GE → Nat × Nat → List Frame → Array Value → State → State → Prop} {X : XT} {kc ks pc : Nat} {ls : List (Option AV)} {st : List AV} {sh : Sh} {Mr : MR} {M : MM}
theorem ex_iadd {x y : Int32} (d : decode mi.2.1 pc = .ok (.iadd, 1)) (k : Ex mi R Z X kc ks (pc + 1) ls (.int (x + y) :: st) sh Mr M) : Ex mi R Z X kc ks pc ls (.int y :: .int x :: st) sh Mr M := by
  intro l E bb p e s m args below meth c F H locs lsA hP hS hl hk
  exact lv_iadd F.1 F.2.1 d (k l E bb p e s m args below meth c F H locs lsA hP hS hl hk)
theorem ex_isub {x y : Int32} (d : decode mi.2.1 pc = .ok (.isub, 1)) (k : Ex mi R Z X kc ks (pc + 1) ls (.int (x - y) :: st) sh Mr M) : Ex mi R Z X kc ks pc ls (.int y :: .int x :: st) sh Mr M := by
  intro l E bb p e s m args below meth c F H locs lsA hP hS hl hk
  exact lv_isub F.1 F.2.1 d (k l E bb p e s m args below meth c F H locs lsA hP hS hl hk)
theorem ex_imul {x y : Int32} (d : decode mi.2.1 pc = .ok (.imul, 1)) (k : Ex mi R Z X kc ks (pc + 1) ls (.int (x * y) :: st) sh Mr M) : Ex mi R Z X kc ks pc ls (.int y :: .int x :: st) sh Mr M := by
  intro l E bb p e s m args below meth c F H locs lsA hP hS hl hk
  exact lv_imul F.1 F.2.1 d (k l E bb p e s m args below meth c F H locs lsA hP hS hl hk)
theorem ex_iand {x y : Int32} (d : decode mi.2.1 pc = .ok (.iand, 1)) (k : Ex mi R Z X kc ks (pc + 1) ls (.int (x &&& y) :: st) sh Mr M) : Ex mi R Z X kc ks pc ls (.int y :: .int x :: st) sh Mr M := by
  intro l E bb p e s m args below meth c F H locs lsA hP hS hl hk
  exact lv_iand F.1 F.2.1 d (k l E bb p e s m args below meth c F H locs lsA hP hS hl hk)
theorem ex_ior {x y : Int32} (d : decode mi.2.1 pc = .ok (.ior, 1)) (k : Ex mi R Z X kc ks (pc + 1) ls (.int (x ||| y) :: st) sh Mr M) : Ex mi R Z X kc ks pc ls (.int y :: .int x :: st) sh Mr M := by
  intro l E bb p e s m args below meth c F H locs lsA hP hS hl hk
  exact lv_ior F.1 F.2.1 d (k l E bb p e s m args below meth c F H locs lsA hP hS hl hk)
theorem ex_ixor {x y : Int32} (d : decode mi.2.1 pc = .ok (.ixor, 1)) (k : Ex mi R Z X kc ks (pc + 1) ls (.int (x ^^^ y) :: st) sh Mr M) : Ex mi R Z X kc ks pc ls (.int y :: .int x :: st) sh Mr M := by
  intro l E bb p e s m args below meth c F H locs lsA hP hS hl hk
  exact lv_ixor F.1 F.2.1 d (k l E bb p e s m args below meth c F H locs lsA hP hS hl hk)
theorem ex_idiv {x y : Int32} (d : decode mi.2.1 pc = .ok (.idiv, 1)) (hne : ¬ y = 0) (k : Ex mi R Z X kc ks (pc + 1) ls (.int (x / y) :: st) sh Mr M) : Ex mi R Z X kc ks pc ls (.int y :: .int x :: st) sh Mr M := by
  intro l E bb p e s m args below meth c F H locs lsA hP hS hl hk
  exact lv_idiv F.1 F.2.1 d hne (k l E bb p e s m args below meth c F H locs lsA hP hS hl hk)
theorem ex_irem {x y : Int32} (d : decode mi.2.1 pc = .ok (.irem, 1)) (hne : ¬ y = 0) (k : Ex mi R Z X kc ks (pc + 1) ls (.int (x - x / y * y) :: st) sh Mr M) : Ex mi R Z X kc ks pc ls (.int y :: .int x :: st) sh Mr M := by
  intro l E bb p e s m args below meth c F H locs lsA hP hS hl hk
  exact lv_irem F.1 F.2.1 d hne (k l E bb p e s m args below meth c F H locs lsA hP hS hl hk)
theorem ex_ishl {x y : Int32} (d : decode mi.2.1 pc = .ok (.ishl, 1)) (k : Ex mi R Z X kc ks (pc + 1) ls (.int (x <<< (y &&& 31)) :: st) sh Mr M) : Ex mi R Z X kc ks pc ls (.int y :: .int x :: st) sh Mr M := by
  intro l E bb p e s m args below meth c F H locs lsA hP hS hl hk
  exact lv_ishl F.1 F.2.1 d (k l E bb p e s m args below meth c F H locs lsA hP hS hl hk)
theorem ex_ishr {x y : Int32} (d : decode mi.2.1 pc = .ok (.ishr, 1)) (k : Ex mi R Z X kc ks (pc + 1) ls (.int (x >>> (y &&& 31)) :: st) sh Mr M) : Ex mi R Z X kc ks pc ls (.int y :: .int x :: st) sh Mr M := by
  intro l E bb p e s m args below meth c F H locs lsA hP hS hl hk
  exact lv_ishr F.1 F.2.1 d (k l E bb p e s m args below meth c F H locs lsA hP hS hl hk)
theorem ex_iushr {x y : Int32} (d : decode mi.2.1 pc = .ok (.iushr, 1)) (k : Ex mi R Z X kc ks (pc + 1) ls (.int (x.toUInt32 >>> (y.toUInt32 &&& Int32.toUInt32 31)).toInt32 :: st) sh Mr M) : Ex mi R Z X kc ks pc ls (.int y :: .int x :: st) sh Mr M := by
  intro l E bb p e s m args below meth c F H locs lsA hP hS hl hk
  exact lv_iushr F.1 F.2.1 d rfl (k l E bb p e s m args below meth c F H locs lsA hP hS hl hk)
theorem ex_ladd {x y : Int64} (d : decode mi.2.1 pc = .ok (.ladd, 1)) (k : Ex mi R Z X kc ks (pc + 1) ls (.long (x + y) :: st) sh Mr M) : Ex mi R Z X kc ks pc ls (.long y :: .long x :: st) sh Mr M := by
  intro l E bb p e s m args below meth c F H locs lsA hP hS hl hk
  exact lv_ladd F.1 F.2.1 d (k l E bb p e s m args below meth c F H locs lsA hP hS hl hk)
theorem ex_lmul {x y : Int64} (d : decode mi.2.1 pc = .ok (.lmul, 1)) (k : Ex mi R Z X kc ks (pc + 1) ls (.long (x * y) :: st) sh Mr M) : Ex mi R Z X kc ks pc ls (.long y :: .long x :: st) sh Mr M := by
  intro l E bb p e s m args below meth c F H locs lsA hP hS hl hk
  exact lv_lmul F.1 F.2.1 d (k l E bb p e s m args below meth c F H locs lsA hP hS hl hk)
theorem ex_land {x y : Int64} (d : decode mi.2.1 pc = .ok (.land, 1)) (k : Ex mi R Z X kc ks (pc + 1) ls (.long (x &&& y) :: st) sh Mr M) : Ex mi R Z X kc ks pc ls (.long y :: .long x :: st) sh Mr M := by
  intro l E bb p e s m args below meth c F H locs lsA hP hS hl hk
  exact lv_land F.1 F.2.1 d (k l E bb p e s m args below meth c F H locs lsA hP hS hl hk)
theorem ex_lor {x y : Int64} (d : decode mi.2.1 pc = .ok (.lor, 1)) (k : Ex mi R Z X kc ks (pc + 1) ls (.long (x ||| y) :: st) sh Mr M) : Ex mi R Z X kc ks pc ls (.long y :: .long x :: st) sh Mr M := by
  intro l E bb p e s m args below meth c F H locs lsA hP hS hl hk
  exact lv_lor F.1 F.2.1 d (k l E bb p e s m args below meth c F H locs lsA hP hS hl hk)
theorem ex_ldiv {x y : Int64} (d : decode mi.2.1 pc = .ok (.ldiv, 1)) (hne : ¬ y = 0) (k : Ex mi R Z X kc ks (pc + 1) ls (.long (x / y) :: st) sh Mr M) : Ex mi R Z X kc ks pc ls (.long y :: .long x :: st) sh Mr M := by
  intro l E bb p e s m args below meth c F H locs lsA hP hS hl hk
  exact lv_ldiv F.1 F.2.1 d hne (k l E bb p e s m args below meth c F H locs lsA hP hS hl hk)
theorem ex_lrem {x y : Int64} (d : decode mi.2.1 pc = .ok (.lrem, 1)) (hne : ¬ y = 0) (k : Ex mi R Z X kc ks (pc + 1) ls (.long (x - x / y * y) :: st) sh Mr M) : Ex mi R Z X kc ks pc ls (.long y :: .long x :: st) sh Mr M := by
  intro l E bb p e s m args below meth c F H locs lsA hP hS hl hk
  exact lv_lrem F.1 F.2.1 d hne (k l E bb p e s m args below meth c F H locs lsA hP hS hl hk)
theorem ex_lshl {x : Int64} {y : Int32} (d : decode mi.2.1 pc = .ok (.lshl, 1)) (k : Ex mi R Z X kc ks (pc + 1) ls (.long (x <<< (y.toInt64 &&& 63)) :: st) sh Mr M) : Ex mi R Z X kc ks pc ls (.int y :: .long x :: st) sh Mr M := by
  intro l E bb p e s m args below meth c F H locs lsA hP hS hl hk
  exact lv_lshl F.1 F.2.1 d rfl (k l E bb p e s m args below meth c F H locs lsA hP hS hl hk)
theorem ex_lushr {x : Int64} {y : Int32} (d : decode mi.2.1 pc = .ok (.lushr, 1)) (k : Ex mi R Z X kc ks (pc + 1) ls (.long (x.toUInt64 >>> (y.toInt64.toUInt64 &&& Int64.toUInt64 63)).toInt64 :: st) sh Mr M) : Ex mi R Z X kc ks pc ls (.int y :: .long x :: st) sh Mr M := by
  intro l E bb p e s m args below meth c F H locs lsA hP hS hl hk
  exact lv_lushr F.1 F.2.1 d rfl (k l E bb p e s m args below meth c F H locs lsA hP hS hl hk)
theorem ex_i2l {x : Int32} (d : decode mi.2.1 pc = .ok (.i2l, 1)) (k : Ex mi R Z X kc ks (pc + 1) ls (.long x.toInt64 :: st) sh Mr M) : Ex mi R Z X kc ks pc ls (.int x :: st) sh Mr M := by
  intro l E bb p e s m args below meth c F H locs lsA hP hS hl hk
  exact lv_i2l F.1 F.2.1 d rfl (k l E bb p e s m args below meth c F H locs lsA hP hS hl hk)
theorem ex_l2i {x : Int64} (d : decode mi.2.1 pc = .ok (.l2i, 1)) (k : Ex mi R Z X kc ks (pc + 1) ls (.int x.toInt32 :: st) sh Mr M) : Ex mi R Z X kc ks pc ls (.long x :: st) sh Mr M := by
  intro l E bb p e s m args below meth c F H locs lsA hP hS hl hk
  exact lv_l2i F.1 F.2.1 d rfl (k l E bb p e s m args below meth c F H locs lsA hP hS hl hk)
theorem ex_iconst {n : Int} {v : Int32} (d : decode mi.2.1 pc = .ok (.iconst n, 1)) (hv : Int32.ofInt n = v) (k : Ex mi R Z X kc ks (pc + 1) ls (.int v :: st) sh Mr M) : Ex mi R Z X kc ks pc ls st sh Mr M := by
  intro l E bb p e s m args below meth c F H locs lsA hP hS hl hk
  exact lv_iconst F.1 F.2.1 d hv (k l E bb p e s m args below meth c F H locs lsA hP hS hl hk)
theorem ex_bipush {n : Int} {v : Int32} (d : decode mi.2.1 pc = .ok (.bipush n, 2)) (hv : (Int8.ofInt n).toInt32 = v) (k : Ex mi R Z X kc ks (pc + 2) ls (.int v :: st) sh Mr M) : Ex mi R Z X kc ks pc ls st sh Mr M := by
  intro l E bb p e s m args below meth c F H locs lsA hP hS hl hk
  exact lv_bipush F.1 F.2.1 d hv (k l E bb p e s m args below meth c F H locs lsA hP hS hl hk)
theorem ex_sipush {n : Int} {v : Int32} (d : decode mi.2.1 pc = .ok (.sipush n, 3)) (hv : (Int16.ofInt n).toInt32 = v) (k : Ex mi R Z X kc ks (pc + 3) ls (.int v :: st) sh Mr M) : Ex mi R Z X kc ks pc ls st sh Mr M := by
  intro l E bb p e s m args below meth c F H locs lsA hP hS hl hk
  exact lv_sipush F.1 F.2.1 d hv (k l E bb p e s m args below meth c F H locs lsA hP hS hl hk)
theorem ex_lconst {n : Fin 2} {v : Int64} (d : decode mi.2.1 pc = .ok (.lconst n, 1)) (hv : Int64.ofNat (n : Nat) = v) (k : Ex mi R Z X kc ks (pc + 1) ls (.long v :: st) sh Mr M) : Ex mi R Z X kc ks pc ls st sh Mr M := by
  intro l E bb p e s m args below meth c F H locs lsA hP hS hl hk
  exact lv_lconst F.1 F.2.1 d hv (k l E bb p e s m args below meth c F H locs lsA hP hS hl hk)
theorem ex_dupR {c : Nat} (d : decode mi.2.1 pc = .ok (.dup, 1)) (k : Ex mi R Z X kc ks (pc + 1) ls (.ref c :: .ref c :: st) sh Mr M) : Ex mi R Z X kc ks pc ls (.ref c :: st) sh Mr M := by
  intro l E bb p e s m args below meth c F H locs lsA hP hS hl hk
  exact lv_dup F.1 F.2.1 d rfl (k l E bb p e s m args below meth c F H locs lsA hP hS hl hk)
theorem ex_dupI {x : Int32} (d : decode mi.2.1 pc = .ok (.dup, 1)) (k : Ex mi R Z X kc ks (pc + 1) ls (.int x :: .int x :: st) sh Mr M) : Ex mi R Z X kc ks pc ls (.int x :: st) sh Mr M := by
  intro l E bb p e s m args below meth c F H locs lsA hP hS hl hk
  exact lv_dup F.1 F.2.1 d rfl (k l E bb p e s m args below meth c F H locs lsA hP hS hl hk)
theorem ex_dup2 {x : Int32} {c : Nat} (d : decode mi.2.1 pc = .ok (.dup2, 1)) (k : Ex mi R Z X kc ks (pc + 1) ls (.int x :: .ref c :: .int x :: .ref c :: st) sh Mr M) : Ex mi R Z X kc ks pc ls (.int x :: .ref c :: st) sh Mr M := by
  intro l E bb p e s m args below meth c F H locs lsA hP hS hl hk
  exact lv_dup2_11 F.1 F.2.1 d rfl rfl (k l E bb p e s m args below meth c F H locs lsA hP hS hl hk)
theorem ex_popI {x : Int32} (d : decode mi.2.1 pc = .ok (.pop, 1)) (k : Ex mi R Z X kc ks (pc + 1) ls st sh Mr M) : Ex mi R Z X kc ks pc ls (.int x :: st) sh Mr M := by
  intro l E bb p e s m args below meth c F H locs lsA hP hS hl hk
  exact lv_pop F.1 F.2.1 d rfl (k l E bb p e s m args below meth c F H locs lsA hP hS hl hk)
theorem ex_ldcw {idx : Nat} {v : Int32} (d : decode mi.2.1 pc = .ok (.ldc_w idx, 3)) (hc : Cond.constant mi.1.cls idx v ∈ lw_tbl) (k : Ex mi R Z X kc ks (pc + 3) ls (.int v :: st) sh Mr M) : Ex mi R Z X kc ks pc ls st sh Mr M := by
  intro l E bb p e s m args below meth c F H locs lsA hP hS hl hk
  exact lv_ldcw F.1 F.2.1 F.2.2.2.2.1 (F.2.2.2.2.2.1 _ hc rfl) d (k l E bb p e s m args below meth c F H locs lsA hP hS hl hk)
theorem ex_ldc2 {idx : Nat} {v : Int64} (d : decode mi.2.1 pc = .ok (.ldc2_w idx, 3)) (hc : Cond.constantLong mi.1.cls idx v ∈ lw_tbl) (k : Ex mi R Z X kc ks (pc + 3) ls (.long v :: st) sh Mr M) : Ex mi R Z X kc ks pc ls st sh Mr M := by
  intro l E bb p e s m args below meth c F H locs lsA hP hS hl hk
  exact lv_ldc2 F.1 F.2.1 F.2.2.2.2.1 (F.2.2.2.2.2.1 _ hc rfl) d (k l E bb p e s m args below meth c F H locs lsA hP hS hl hk)
theorem ex_if_eq {x : Int32} {off : Int} {tgt : Nat} (d : decode mi.2.1 pc = .ok (.ifCond .eq off, 3)) (ht : (pc : Int) + off = (tgt : Int)) (kt : x = 0 → Ex mi R Z X kc ks tgt ls st sh Mr M) (kf : ¬ x = 0 → Ex mi R Z X kc ks (pc + 3) ls st sh Mr M) : Ex mi R Z X kc ks pc ls (.int x :: st) sh Mr M := by
  intro l E bb p e s m args below meth c F H locs lsA hP hS hl hk
  exact lv_if_eq F.1 F.2.1 d ht (fun q => kt q l E bb p e s m args below meth c F H locs lsA hP hS hl hk) (fun q => kf q l E bb p e s m args below meth c F H locs lsA hP hS hl hk)
theorem ex_if_ne {x : Int32} {off : Int} {tgt : Nat} (d : decode mi.2.1 pc = .ok (.ifCond .ne off, 3)) (ht : (pc : Int) + off = (tgt : Int)) (kt : ¬ x = 0 → Ex mi R Z X kc ks tgt ls st sh Mr M) (kf : x = 0 → Ex mi R Z X kc ks (pc + 3) ls st sh Mr M) : Ex mi R Z X kc ks pc ls (.int x :: st) sh Mr M := by
  intro l E bb p e s m args below meth c F H locs lsA hP hS hl hk
  exact lv_if_ne F.1 F.2.1 d ht (fun q => kt q l E bb p e s m args below meth c F H locs lsA hP hS hl hk) (fun q => kf q l E bb p e s m args below meth c F H locs lsA hP hS hl hk)
theorem ex_if_lt {x : Int32} {off : Int} {tgt : Nat} (d : decode mi.2.1 pc = .ok (.ifCond .lt off, 3)) (ht : (pc : Int) + off = (tgt : Int)) (kt : x < 0 → Ex mi R Z X kc ks tgt ls st sh Mr M) (kf : ¬ x < 0 → Ex mi R Z X kc ks (pc + 3) ls st sh Mr M) : Ex mi R Z X kc ks pc ls (.int x :: st) sh Mr M := by
  intro l E bb p e s m args below meth c F H locs lsA hP hS hl hk
  exact lv_if_lt F.1 F.2.1 d ht (fun q => kt q l E bb p e s m args below meth c F H locs lsA hP hS hl hk) (fun q => kf q l E bb p e s m args below meth c F H locs lsA hP hS hl hk)
theorem ex_if_ge {x : Int32} {off : Int} {tgt : Nat} (d : decode mi.2.1 pc = .ok (.ifCond .ge off, 3)) (ht : (pc : Int) + off = (tgt : Int)) (kt : 0 ≤ x → Ex mi R Z X kc ks tgt ls st sh Mr M) (kf : ¬ 0 ≤ x → Ex mi R Z X kc ks (pc + 3) ls st sh Mr M) : Ex mi R Z X kc ks pc ls (.int x :: st) sh Mr M := by
  intro l E bb p e s m args below meth c F H locs lsA hP hS hl hk
  exact lv_if_ge F.1 F.2.1 d ht (fun q => kt q l E bb p e s m args below meth c F H locs lsA hP hS hl hk) (fun q => kf q l E bb p e s m args below meth c F H locs lsA hP hS hl hk)
theorem ex_if_gt {x : Int32} {off : Int} {tgt : Nat} (d : decode mi.2.1 pc = .ok (.ifCond .gt off, 3)) (ht : (pc : Int) + off = (tgt : Int)) (kt : 0 < x → Ex mi R Z X kc ks tgt ls st sh Mr M) (kf : ¬ 0 < x → Ex mi R Z X kc ks (pc + 3) ls st sh Mr M) : Ex mi R Z X kc ks pc ls (.int x :: st) sh Mr M := by
  intro l E bb p e s m args below meth c F H locs lsA hP hS hl hk
  exact lv_if_gt F.1 F.2.1 d ht (fun q => kt q l E bb p e s m args below meth c F H locs lsA hP hS hl hk) (fun q => kf q l E bb p e s m args below meth c F H locs lsA hP hS hl hk)
theorem ex_if_le {x : Int32} {off : Int} {tgt : Nat} (d : decode mi.2.1 pc = .ok (.ifCond .le off, 3)) (ht : (pc : Int) + off = (tgt : Int)) (kt : x ≤ 0 → Ex mi R Z X kc ks tgt ls st sh Mr M) (kf : ¬ x ≤ 0 → Ex mi R Z X kc ks (pc + 3) ls st sh Mr M) : Ex mi R Z X kc ks pc ls (.int x :: st) sh Mr M := by
  intro l E bb p e s m args below meth c F H locs lsA hP hS hl hk
  exact lv_if_le F.1 F.2.1 d ht (fun q => kt q l E bb p e s m args below meth c F H locs lsA hP hS hl hk) (fun q => kf q l E bb p e s m args below meth c F H locs lsA hP hS hl hk)
theorem ex_icmp_eq {x y : Int32} {off : Int} {tgt : Nat} (d : decode mi.2.1 pc = .ok (.if_icmp .eq off, 3)) (ht : (pc : Int) + off = (tgt : Int)) (kt : x = y → Ex mi R Z X kc ks tgt ls st sh Mr M) (kf : ¬ x = y → Ex mi R Z X kc ks (pc + 3) ls st sh Mr M) : Ex mi R Z X kc ks pc ls (.int y :: .int x :: st) sh Mr M := by
  intro l E bb p e s m args below meth c F H locs lsA hP hS hl hk
  exact lv_icmp_eq F.1 F.2.1 d ht (fun q => kt q l E bb p e s m args below meth c F H locs lsA hP hS hl hk) (fun q => kf q l E bb p e s m args below meth c F H locs lsA hP hS hl hk)
theorem ex_icmp_ne {x y : Int32} {off : Int} {tgt : Nat} (d : decode mi.2.1 pc = .ok (.if_icmp .ne off, 3)) (ht : (pc : Int) + off = (tgt : Int)) (kt : ¬ x = y → Ex mi R Z X kc ks tgt ls st sh Mr M) (kf : x = y → Ex mi R Z X kc ks (pc + 3) ls st sh Mr M) : Ex mi R Z X kc ks pc ls (.int y :: .int x :: st) sh Mr M := by
  intro l E bb p e s m args below meth c F H locs lsA hP hS hl hk
  exact lv_icmp_ne F.1 F.2.1 d ht (fun q => kt q l E bb p e s m args below meth c F H locs lsA hP hS hl hk) (fun q => kf q l E bb p e s m args below meth c F H locs lsA hP hS hl hk)
theorem ex_icmp_lt {x y : Int32} {off : Int} {tgt : Nat} (d : decode mi.2.1 pc = .ok (.if_icmp .lt off, 3)) (ht : (pc : Int) + off = (tgt : Int)) (kt : x < y → Ex mi R Z X kc ks tgt ls st sh Mr M) (kf : ¬ x < y → Ex mi R Z X kc ks (pc + 3) ls st sh Mr M) : Ex mi R Z X kc ks pc ls (.int y :: .int x :: st) sh Mr M := by
  intro l E bb p e s m args below meth c F H locs lsA hP hS hl hk
  exact lv_icmp_lt F.1 F.2.1 d ht (fun q => kt q l E bb p e s m args below meth c F H locs lsA hP hS hl hk) (fun q => kf q l E bb p e s m args below meth c F H locs lsA hP hS hl hk)
theorem ex_icmp_ge {x y : Int32} {off : Int} {tgt : Nat} (d : decode mi.2.1 pc = .ok (.if_icmp .ge off, 3)) (ht : (pc : Int) + off = (tgt : Int)) (kt : y ≤ x → Ex mi R Z X kc ks tgt ls st sh Mr M) (kf : ¬ y ≤ x → Ex mi R Z X kc ks (pc + 3) ls st sh Mr M) : Ex mi R Z X kc ks pc ls (.int y :: .int x :: st) sh Mr M := by
  intro l E bb p e s m args below meth c F H locs lsA hP hS hl hk
  exact lv_icmp_ge F.1 F.2.1 d ht (fun q => kt q l E bb p e s m args below meth c F H locs lsA hP hS hl hk) (fun q => kf q l E bb p e s m args below meth c F H locs lsA hP hS hl hk)
theorem ex_icmp_gt {x y : Int32} {off : Int} {tgt : Nat} (d : decode mi.2.1 pc = .ok (.if_icmp .gt off, 3)) (ht : (pc : Int) + off = (tgt : Int)) (kt : y < x → Ex mi R Z X kc ks tgt ls st sh Mr M) (kf : ¬ y < x → Ex mi R Z X kc ks (pc + 3) ls st sh Mr M) : Ex mi R Z X kc ks pc ls (.int y :: .int x :: st) sh Mr M := by
  intro l E bb p e s m args below meth c F H locs lsA hP hS hl hk
  exact lv_icmp_gt F.1 F.2.1 d ht (fun q => kt q l E bb p e s m args below meth c F H locs lsA hP hS hl hk) (fun q => kf q l E bb p e s m args below meth c F H locs lsA hP hS hl hk)
theorem ex_icmp_le {x y : Int32} {off : Int} {tgt : Nat} (d : decode mi.2.1 pc = .ok (.if_icmp .le off, 3)) (ht : (pc : Int) + off = (tgt : Int)) (kt : x ≤ y → Ex mi R Z X kc ks tgt ls st sh Mr M) (kf : ¬ x ≤ y → Ex mi R Z X kc ks (pc + 3) ls st sh Mr M) : Ex mi R Z X kc ks pc ls (.int y :: .int x :: st) sh Mr M := by
  intro l E bb p e s m args below meth c F H locs lsA hP hS hl hk
  exact lv_icmp_le F.1 F.2.1 d ht (fun q => kt q l E bb p e s m args below meth c F H locs lsA hP hS hl hk) (fun q => kf q l E bb p e s m args below meth c F H locs lsA hP hS hl hk)
theorem ex_goto {off : Int} {tgt : Nat} (d : decode mi.2.1 pc = .ok (.goto off, 3)) (ht : (pc : Int) + off = (tgt : Int)) (k : Ex mi R Z X kc ks tgt ls st sh Mr M) : Ex mi R Z X kc ks pc ls st sh Mr M := by
  intro l E bb p e s m args below meth c F H locs lsA hP hS hl hk
  exact lv_goto F.1 F.2.1 d ht (k l E bb p e s m args below meth c F H locs lsA hP hS hl hk)
theorem ex_lookup {dflt : Int} {ps : Array (Int × Int)} {len : Nat} {x : Int32} {off : Int} {tgt : Nat} (d : decode mi.2.1 pc = .ok (.lookupswitch dflt ps, len)) (hp : (ps.toList.zip (ps.toList.drop 1)).all (fun (a, next) => a.1 < next.1) = true) (ho : Op.lookupswitch.offset ps.toList dflt x.toInt = off) (ht : (pc : Int) + off = (tgt : Int)) (k : Ex mi R Z X kc ks tgt ls st sh Mr M) : Ex mi R Z X kc ks pc ls (.int x :: st) sh Mr M := by
  intro l E bb p e s m args below meth c F H locs lsA hP hS hl hk
  exact lv_lookup F.1 F.2.1 d hp ho ht (k l E bb p e s m args below meth c F H locs lsA hP hS hl hk)
theorem ex_tableOut {dflt lo hi : Int} {offs : Array Int} {len : Nat} {x : Int32} {tgt : Nat} (d : decode mi.2.1 pc = .ok (.tableswitch dflt lo hi offs, len)) (h : x.toInt < lo ∨ hi < x.toInt) (ht : (pc : Int) + dflt = (tgt : Int)) (k : Ex mi R Z X kc ks tgt ls st sh Mr M) : Ex mi R Z X kc ks pc ls (.int x :: st) sh Mr M := by
  intro l E bb p e s m args below meth c F H locs lsA hP hS hl hk
  exact lv_tableOut F.1 F.2.1 d h ht (k l E bb p e s m args below meth c F H locs lsA hP hS hl hk)
theorem ex_tableIn {dflt lo hi : Int} {offs : Array Int} {len : Nat} {x : Int32} {off : Int} {tgt : Nat} (d : decode mi.2.1 pc = .ok (.tableswitch dflt lo hi offs, len)) (h1 : ¬ x.toInt < lo) (h2 : ¬ hi < x.toInt) (ho : offs[(x.toInt - lo).toNat]? = some off) (ht : (pc : Int) + off = (tgt : Int)) (k : Ex mi R Z X kc ks tgt ls st sh Mr M) : Ex mi R Z X kc ks pc ls (.int x :: st) sh Mr M := by
  intro l E bb p e s m args below meth c F H locs lsA hP hS hl hk
  exact lv_tableIn F.1 F.2.1 d h1 h2 ho ht (k l E bb p e s m args below meth c F H locs lsA hP hS hl hk)
theorem ex_iload_gn {q : Fin 4} {x : Int32} (d : decode mi.2.1 pc = .ok (.iload_n q, 1)) (hg : ls[(q : Nat)]? = some (some (.int x))) (k : Ex mi R Z X kc ks (pc + 1) ls (.int x :: st) sh Mr M) : Ex mi R Z X kc ks pc ls st sh Mr M := by
  intro l E bb p e s m args below meth c F H locs lsA hP hS hl hk
  exact lv_iload_n F.1 F.2.1 d rfl (LH_get hl hg) (k l E bb p e s m args below meth c F H locs lsA hP hS hl hk)
theorem ex_iload_g {q : Nat} {x : Int32} (d : decode mi.2.1 pc = .ok (.iload q, 2)) (hg : ls[q]? = some (some (.int x))) (k : Ex mi R Z X kc ks (pc + 2) ls (.int x :: st) sh Mr M) : Ex mi R Z X kc ks pc ls st sh Mr M := by
  intro l E bb p e s m args below meth c F H locs lsA hP hS hl hk
  exact lv_iload F.1 F.2.1 d (LH_get hl hg) (k l E bb p e s m args below meth c F H locs lsA hP hS hl hk)
theorem ex_aload_gn {q : Fin 4} {x : Nat} (d : decode mi.2.1 pc = .ok (.aload_n q, 1)) (hg : ls[(q : Nat)]? = some (some (.ref x))) (k : Ex mi R Z X kc ks (pc + 1) ls (.ref x :: st) sh Mr M) : Ex mi R Z X kc ks pc ls st sh Mr M := by
  intro l E bb p e s m args below meth c F H locs lsA hP hS hl hk
  exact lv_aload_n F.1 F.2.1 d rfl (LH_get hl hg) (k l E bb p e s m args below meth c F H locs lsA hP hS hl hk)
theorem ex_aload_g {q : Nat} {x : Nat} (d : decode mi.2.1 pc = .ok (.aload q, 2)) (hg : ls[q]? = some (some (.ref x))) (k : Ex mi R Z X kc ks (pc + 2) ls (.ref x :: st) sh Mr M) : Ex mi R Z X kc ks pc ls st sh Mr M := by
  intro l E bb p e s m args below meth c F H locs lsA hP hS hl hk
  exact lv_aload F.1 F.2.1 d (LH_get hl hg) (k l E bb p e s m args below meth c F H locs lsA hP hS hl hk)
theorem ex_lload_gn {q : Fin 4} {x : Int64} (d : decode mi.2.1 pc = .ok (.lload_n q, 1)) (hg : ls[(q : Nat)]? = some (some (.long x))) (k : Ex mi R Z X kc ks (pc + 1) ls (.long x :: st) sh Mr M) : Ex mi R Z X kc ks pc ls st sh Mr M := by
  intro l E bb p e s m args below meth c F H locs lsA hP hS hl hk
  exact lv_lload_n F.1 F.2.1 d rfl (LH_get hl hg) (k l E bb p e s m args below meth c F H locs lsA hP hS hl hk)
theorem ex_lload_g {q : Nat} {x : Int64} (d : decode mi.2.1 pc = .ok (.lload q, 2)) (hg : ls[q]? = some (some (.long x))) (k : Ex mi R Z X kc ks (pc + 2) ls (.long x :: st) sh Mr M) : Ex mi R Z X kc ks pc ls st sh Mr M := by
  intro l E bb p e s m args below meth c F H locs lsA hP hS hl hk
  exact lv_lload F.1 F.2.1 d (LH_get hl hg) (k l E bb p e s m args below meth c F H locs lsA hP hS hl hk)
theorem ex_istore_gn {q : Fin 4} {x : Int32} (d : decode mi.2.1 pc = .ok (.istore_n q, 1)) (hn : (q : Nat) < mi.2.2.1) (hb : nlb ls q = true) (k : Ex mi R Z X kc ks (pc + 1) (ls.set q (some (.int x))) st sh Mr M) : Ex mi R Z X kc ks pc ls (.int x :: st) sh Mr M := by
  intro l E bb p e s m args below meth c F H locs lsA hP hS hl hk
  exact lv_istore_n F.1 F.2.1 d rfl hl hn rfl (fun ls2 hl2 => k l E bb p e s m args below meth c F H locs ls2 hP hS (LH_store (v := .int x) hb hl2) hk)
theorem ex_istore_g {q : Nat} {x : Int32} (d : decode mi.2.1 pc = .ok (.istore q, 2)) (hn : q < mi.2.2.1) (hb : nlb ls q = true) (k : Ex mi R Z X kc ks (pc + 2) (ls.set q (some (.int x))) st sh Mr M) : Ex mi R Z X kc ks pc ls (.int x :: st) sh Mr M := by
  intro l E bb p e s m args below meth c F H locs lsA hP hS hl hk
  exact lv_istore F.1 F.2.1 d hl hn rfl (fun ls2 hl2 => k l E bb p e s m args below meth c F H locs ls2 hP hS (LH_store (v := .int x) hb hl2) hk)
theorem ex_astore_gn {q : Fin 4} {x : Nat} (d : decode mi.2.1 pc = .ok (.astore_n q, 1)) (hn : (q : Nat) < mi.2.2.1) (hb : nlb ls q = true) (k : Ex mi R Z X kc ks (pc + 1) (ls.set q (some (.ref x))) st sh Mr M) : Ex mi R Z X kc ks pc ls (.ref x :: st) sh Mr M := by
  intro l E bb p e s m args below meth c F H locs lsA hP hS hl hk
  exact lv_astore_n F.1 F.2.1 d rfl hl hn rfl (fun ls2 hl2 => k l E bb p e s m args below meth c F H locs ls2 hP hS (LH_store (v := .ref x) hb hl2) hk)
theorem ex_astore_g {q : Nat} {x : Nat} (d : decode mi.2.1 pc = .ok (.astore q, 2)) (hn : q < mi.2.2.1) (hb : nlb ls q = true) (k : Ex mi R Z X kc ks (pc + 2) (ls.set q (some (.ref x))) st sh Mr M) : Ex mi R Z X kc ks pc ls (.ref x :: st) sh Mr M := by
  intro l E bb p e s m args below meth c F H locs lsA hP hS hl hk
  exact lv_astore F.1 F.2.1 d hl hn rfl (fun ls2 hl2 => k l E bb p e s m args below meth c F H locs ls2 hP hS (LH_store (v := .ref x) hb hl2) hk)
theorem ex_lstore_gn {q : Fin 4} {x : Int64} (d : decode mi.2.1 pc = .ok (.lstore_n q, 1)) (hn : (q : Nat) + 1 < mi.2.2.1) (hb : nlb ls q = true) (k : Ex mi R Z X kc ks (pc + 1) ((ls.set q (some (.long x))).set (q + 1) none) st sh Mr M) : Ex mi R Z X kc ks pc ls (.long x :: st) sh Mr M := by
  intro l E bb p e s m args below meth c F H locs lsA hP hS hl hk
  exact lv_lstore_n F.1 F.2.1 d rfl hl hn rfl (fun ls2 hl2 => k l E bb p e s m args below meth c F H locs ls2 hP hS (LH_storeL (v := .long x) hb hl2) hk)
theorem ex_lstore_g {q : Nat} {x : Int64} (d : decode mi.2.1 pc = .ok (.lstore q, 2)) (hn : q + 1 < mi.2.2.1) (hb : nlb ls q = true) (k : Ex mi R Z X kc ks (pc + 2) ((ls.set q (some (.long x))).set (q + 1) none) st sh Mr M) : Ex mi R Z X kc ks pc ls (.long x :: st) sh Mr M := by
  intro l E bb p e s m args below meth c F H locs lsA hP hS hl hk
  exact lv_lstore F.1 F.2.1 d hl hn rfl (fun ls2 hl2 => k l E bb p e s m args below meth c F H locs ls2 hP hS (LH_storeL (v := .long x) hb hl2) hk)
theorem ex_iinc_g {q : Nat} {n : Int} {x : Int32} (d : decode mi.2.1 pc = .ok (.iinc q n, 3)) (hn : q < mi.2.2.1) (hb : nlb ls q = true) (hg : ls[q]? = some (some (.int x))) (k : Ex mi R Z X kc ks (pc + 3) (ls.set q (some (.int (x + Int32.ofInt n)))) st sh Mr M) : Ex mi R Z X kc ks pc ls st sh Mr M := by
  intro l E bb p e s m args below meth c F H locs lsA hP hS hl hk
  have hm := lvl_mem (bb := bb) ls 0 q (.int x) hg
  rw [Nat.zero_add] at hm
  obtain ⟨j, hj⟩ := List.getElem?_of_mem hm
  exact lv_iinc F.1 F.2.1 d hl hj rfl hn rfl (fun ls2 hl2 => k l E bb p e s m args below meth c F H locs ls2 hP hS (LH_store (v := .int (x + Int32.ofInt n)) hb hl2) hk)
end EX
