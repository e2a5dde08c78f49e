def va_AOA (t : FieldType) (U : State) : Prop := (Cond.arrayOver (.array t)).before #[] U = true
theorem va_AOA.of {t : FieldType} {A : Array Value} {U : State} (h : (Cond.arrayOver (.array t)).before A U = true) : va_AOA t U := h
theorem va_AOA.use {t : FieldType} {A : Array Value} {U : State} (h : va_AOA t U) : (Cond.arrayOver (.array t)).before A U = true := h
/-! ===== BEGIN words of one list among another's, by their places ===== -/
theorem goodIn_r {big : List Cond} (ws : List Cond) (ps : List Nat) (hp : ws = ps.filterMap (fun i => big[i]?)) (h : ws.all goodWord = true) : GoodIn big ws := by
  intro w hw
  have h1 := List.all_eq_true.mp h w hw
  rw [hp] at hw
  obtain ⟨i, -, hi⟩ := List.mem_filterMap.mp hw
  have hm : w ∈ big := by first | exact List.mem_of_getElem? hi | exact List.getElem?_mem hi
  exact ⟨hm, good_of_word h1⟩
theorem goodIn_app {big a b : List Cond} (ha : GoodIn big a) (hb : GoodIn big b) : GoodIn big (a ++ b) := fun w h => (List.mem_append.mp h).elim (ha w) (hb w)
theorem goodIn_ca {big a b : List Cond} {c : Cond} (ha : GoodIn big (c :: a)) (hb : GoodIn big b) : GoodIn big (c :: (a ++ b)) := fun w h => (List.mem_cons.mp h).elim (fun e => ha w (List.mem_cons.mpr (Or.inl e))) (fun h => (List.mem_append.mp h).elim (fun h => ha w (List.mem_cons.mpr (Or.inr h))) (hb w))
theorem goodIn_sub {big ws : List Cond} (hm : ∀ w ∈ ws, w ∈ big) (h : ws.all goodWord = true) : GoodIn big ws := fun w hw => ⟨hm w hw, good_of_word (List.all_eq_true.mp h w hw)⟩
/-! ===== END ===== -/

/-! ===== BEGIN new T[n][m]: the outer array a place, the inner ones among the pooled ===== -/
/-- f, but v at every address of l -/
def vr_up {α : Type} (f : Nat → α) (l : List Nat) (v : α) : Nat → α := fun a => if a ∈ l then v else f a
theorem vr_up_in {α : Type} {f : Nat → α} {l : List Nat} {v : α} {a : Nat} (h : a ∈ l) : vr_up f l v a = v := if_pos h
theorem vr_up_ne {α : Type} {f : Nat → α} {l : List Nat} {v : α} {a : Nat} (h : a ∉ l) : vr_up f l v a = f a := if_neg h
theorem vr_rows {L l : List Nat} {f : Nat → va_E} {e : va_E} (h : ∀ a, a ∈ l → a ∉ L) : va_pl L f ++ l.map (fun a => (a, e)) = va_pl (L ++ l) (vr_up f l e) := by
  unfold va_pl
  rw [List.map_append]
  congr 1
  · apply List.map_congr_left
    intro a ha
    rw [vr_up_ne (fun q => h a q ha)]
  · apply List.map_congr_left
    intro a ha
    rw [vr_up_in ha]
theorem vr_lay {X rows : va_W} {x : Nat × va_E} {pl : va_W} {D : va_G} {cl : List vw_C} {H : Heap} (hP : va_P D cl (((X ++ pl) ++ [x]) ++ rows) H) : va_P D cl ((X ++ [x]) ++ (pl ++ rows)) H := by
  rw [List.append_assoc (X ++ pl)] at hP
  have h := va_P.swap hP
  rw [← List.append_assoc X] at h
  have h2 := va_P.swap h
  rw [List.append_assoc (X ++ [x])] at h2
  exact h2
theorem vr_layD {X rows : va_W} {x : Nat × va_E} {pl : va_W} {A : Nat → Prop} (hD : va_D A (((X ++ pl) ++ [x]) ++ rows)) : va_D A ((X ++ [x]) ++ (pl ++ rows)) := by
  rw [List.append_assoc (X ++ pl)] at hD
  have h := va_D.swap hD
  rw [← List.append_assoc X] at h
  have h2 := va_D.swap h
  rw [List.append_assoc (X ++ [x])] at h2
  exact h2
theorem vr_outer (c : ClassId) (N h0 : Nat) : ∀ i : Nat, Jvm.Free.Multi.outerC c N h0 i = arrV c N (fun j => va_rf (if j < i then some (h0 + 1 + j) else none))
  | 0 => by
    show ({ cls := c, slots := Array.replicate N .null, vm := .none } : Cell) = _
    rw [arrV_new]
    refine congrArg (arrV c N) (funext fun j => ?_)
    simp [va_rf]
  | i + 1 => by
    show (Jvm.Free.Multi.outerC c N h0 i).setSlot i (.ref (h0 + 1 + i)) = _
    rw [vr_outer c N h0 i, arrV_store]
    refine congrArg (arrV c N) (funext fun j => ?_)
    by_cases e : j = i
    · subst e
      simp [updV, va_rf]
    · by_cases h : j < i
      · simp [updV, e, h, Nat.lt_succ_of_lt h]
      · simp [updV, e, h, show ¬ j < i + 1 by omega]
section VGM
variable {p : Program} {l : Launch} {e : Env} {R : Room} {s : State} {m : MethodId} {args : Array Value} {below : List Frame} {meth : Method} {c : Code} {H : Heap} {locs : List Loc} {cells slots : Nat} {Q : State → Prop}
variable {cc : ByteArray} {pc : Nat} {ls : Array Slot} {rest : List Value} {D : va_G} {cl : List vw_C} {A : Nat → Prop} {a : Nat} {tys : List (ClassId × FieldType)} {ws : va_W} {H0 : Heap}
theorem va_mnaX {X : va_W} {L : List Nat} {f : Nat → va_E} {cc : ByteArray} (hexec : p.tables.exec = Jvm.exec) (hb : c.code = cc) {own : String} {index : Nat} {ty : FieldType} {cy : ClassId} (hown : s.vm.findClass own = some m.cls) (hclink : (Cond.classLink own index ("[" ++ (FieldType.array ty).toString)).before args s = true) (hover : va_AOA ty s) (harr : (Cond.arrayClass ty).before args s = true) (hcy : s.vm.findClass (FieldType.array ty).toString = some cy)
    (hK : va_K D cl tys s) (hP : va_P D cl (X ++ va_pl L f) H) (hD : va_D A (X ++ va_pl L f)) (hS : va_S A H0 H locs) (hA : ∀ q, H0.size ≤ q → A q) {n k : Int32} {N' K' : Nat} {z : vp_A} (hn : ¬ n < 0) (hk : ¬ k < 0) (hN : n.toNatClampNeg = N') (hM : k.toNatClampNeg = K')
    (hb1 : N' * 4 ≤ 536870912) (hb2 : K' * componentBytes ty ≤ 536870912) (hb3 : K' ≤ 536870912) (hdf : fits ty (defaultValue ty) = true) (hdd : (defaultValue ty).isDefault = true) (hcells : cells + (1 + N') ≤ R.cells) (hslots : slots + (N' + N' * K') ≤ R.slots) (hz : ∀ c : ClassId, Jvm.Free.Multi.innerC c K' (defaultValue ty) = vp_cell c z) (hdg : decode cc pc = .ok (.multianewarray index 2, 4))
    (kk : ∀ (q : Nat) (r : Nat → Nat) (cA : ClassId) (H1 : Heap), q = H.size → (∀ i : Nat, r i = H.size + 1 + i) → (∀ i j : Nat, i < N' → j < N' → r i = r j → i = j) → (∀ i : Nat, i < N' → r i ∉ L) → va_K D cl (tys ++ [(cA, .array ty)]) s →
      va_P D cl ((X ++ [(q, .inl (cA, N', .inr (.inr (.inr (.inr (fun i => if i < N' then some (r i) else none))))))]) ++ va_pl (L ++ (List.range N').map r) (vr_up f ((List.range N').map r) (.inl (cy, z)))) H1 → va_D A ((X ++ [(q, .inl (cA, N', .inr (.inr (.inr (.inr (fun i => if i < N' then some (r i) else none))))))]) ++ va_pl (L ++ (List.range N').map r) (vr_up f ((List.range N').map r) (.inl (cy, z)))) → va_S A H0 H1 locs →
      W p l e R s m args below meth c H1 locs (cells + 1 + N') (slots + N' + N' * K') Q (F0 m (pc + 4) ls (.ref q :: rest))) : W p l e R s m args below meth c H locs cells slots Q (F0 m pc ls (.int k :: .int n :: rest)) := by
  subst hN
  subst hM
  intro T hT Xs
  obtain ⟨vm₁, cA, comp, -, fA, fC, hO, -, X', step⟩ := Xs.multianewarray2F hexec hown hclink (va_AOA.use hover) harr (g := F0 m pc ls (.int k :: .int n :: rest)) rfl (by rw [hb]; exact hdg) rfl hn hk hb1 hb2 hb3 hdf hdd hcells hslots
  have ec : some cy = some comp := hcy.symm.trans fC
  cases ec
  generalize hF : Jvm.Free.Multi.fill (T.setVm vm₁) cA cy n.toNatClampNeg k.toNatClampNeg (defaultValue ty) n.toNatClampNeg = F at X' step
  have hTh : (T.setVm vm₁).heap = H := hT
  obtain ⟨f1, f2, -, -⟩ := Jvm.Free.Multi.fill_facts (T.setVm vm₁) cA cy n.toNatClampNeg k.toNatClampNeg (defaultValue ty) n.toNatClampNeg
  rw [hF, hTh] at f1 f2
  have hold : ∀ x : Nat, x < H.size → F.heap[x]? = H[x]? := fun x hx => by
    have := Jvm.Free.Multi.fill_old (T.setVm vm₁) cA cy n.toNatClampNeg k.toNatClampNeg (defaultValue ty) (a := x) (by rw [hTh]; exact hx) n.toNatClampNeg
    rw [hF, hTh] at this
    exact this
  have hrow : ∀ j : Nat, j < n.toNatClampNeg → F.heap[H.size + 1 + j]? = some (vp_cell cy z) := fun j hj => by
    have := Jvm.Free.Multi.fill_inner (T.setVm vm₁) cA cy n.toNatClampNeg k.toNatClampNeg (defaultValue ty) n.toNatClampNeg j hj
    rw [hF, hTh, hz] at this
    exact this
  have hout : Jvm.Free.Multi.outerC cA n.toNatClampNeg H.size n.toNatClampNeg = vp_cell cA (n.toNatClampNeg, .inr (.inr (.inr (.inr (fun i => if i < n.toNatClampNeg then some (H.size + 1 + i) else none))))) := by
    rw [vp_cell_q]
    exact vr_outer cA n.toNatClampNeg H.size n.toNatClampNeg
  rw [hout] at f2
  have hlt : ∀ a, a ∈ L → a < H.size := fun a ha => by
    obtain ⟨k9, hk9⟩ := va_pl_get (X := X) (f := f) ha
    exact (hP k9 _ hk9).lt
  have hnl : ∀ i : Nat, i < n.toNatClampNeg → H.size + 1 + i ∉ L := fun i _ h => by
    have := hlt _ h
    omega
  have hnm : ∀ a, a ∈ (List.range n.toNatClampNeg).map (fun i => H.size + 1 + i) → a ∉ L := fun a ha h => by
    obtain ⟨i, -, rfl⟩ := List.mem_map.mp ha
    have := hlt _ h
    omega
  have hP0 : va_P D cl (X ++ va_pl L f) F.heap := hP.kept (fun k9 x hx => hold x.1 ((hP k9 x hx).lt))
  have hP1 : va_P D cl ((X ++ va_pl L f) ++ [(H.size, .inl (cA, n.toNatClampNeg, .inr (.inr (.inr (.inr (fun i => if i < n.toNatClampNeg then some (H.size + 1 + i) else none))))))]) F.heap := hP0.app (fun k9 x hx => by
    have h0 : k9 < 1 := (List.getElem?_eq_some_iff.mp hx).1
    rw [show k9 = 0 by omega] at hx
    cases hx
    exact f2)
  have hP2 : va_P D cl (((X ++ va_pl L f) ++ [(H.size, .inl (cA, n.toNatClampNeg, .inr (.inr (.inr (.inr (fun i => if i < n.toNatClampNeg then some (H.size + 1 + i) else none))))))]) ++ ((List.range n.toNatClampNeg).map (fun i => H.size + 1 + i)).map (fun a => (a, .inl (cy, z)))) F.heap := hP1.app (fun k9 x hx => by
    obtain ⟨a, ha, rfl⟩ := List.mem_map.mp (List.mem_of_getElem? hx)
    obtain ⟨i, hi, rfl⟩ := List.mem_map.mp ha
    exact hrow i (List.mem_range.mp hi))
  have hD2 : va_D A (((X ++ va_pl L f) ++ [(H.size, .inl (cA, n.toNatClampNeg, .inr (.inr (.inr (.inr (fun i => if i < n.toNatClampNeg then some (H.size + 1 + i) else none))))))]) ++ ((List.range n.toNatClampNeg).map (fun i => H.size + 1 + i)).map (fun a => (a, .inl (cy, z)))) := by
    have hD1 := hD.push (e := .inl (cA, n.toNatClampNeg, .inr (.inr (.inr (.inr (fun i => if i < n.toNatClampNeg then some (H.size + 1 + i) else none)))))) hP rfl (hA _ hS.1)
    generalize hW1 : (X ++ va_pl L f) ++ [(H.size, .inl (cA, n.toNatClampNeg, .inr (.inr (.inr (.inr (fun i => if i < n.toNatClampNeg then some (H.size + 1 + i) else none))))))] = W1 at hD1 hP1 ⊢
    have hle : ∀ (k9 : Nat) (x : Nat × va_E), W1[k9]? = some x → x.1 ≤ H.size := fun k9 x hx => by
      rw [← hW1] at hx
      by_cases hl : k9 < (X ++ va_pl L f).length
      · rw [List.getElem?_append_left hl] at hx
        exact Nat.le_of_lt ((hP k9 x hx).lt)
      · rw [List.getElem?_append_right (by omega)] at hx
        have h0 : k9 - (X ++ va_pl L f).length < 1 := (List.getElem?_eq_some_iff.mp hx).1
        rw [show k9 - (X ++ va_pl L f).length = 0 by omega] at hx
        cases hx
        exact Nat.le_refl _
    have hr : ∀ (k9 : Nat) (x : Nat × va_E), (((List.range n.toNatClampNeg).map (fun i => H.size + 1 + i)).map (fun a => ((a, .inl (cy, z)) : Nat × va_E)))[k9]? = some x → x.1 = H.size + 1 + k9 := fun k9 x hx => by
      rw [List.getElem?_map, List.getElem?_map] at hx
      by_cases h9 : k9 < n.toNatClampNeg
      · rw [List.getElem?_range h9] at hx
        cases hx
        rfl
      · have hn0 : (List.range n.toNatClampNeg)[k9]? = none := List.getElem?_eq_none (by rw [List.length_range]; omega)
        rw [hn0] at hx
        cases hx
    refine ⟨fun i j x y hi hj hxy => ?_, fun k9 x hx => ?_⟩
    · by_cases h1 : i < W1.length <;> by_cases h2 : j < W1.length
      · rw [List.getElem?_append_left h1] at hi
        rw [List.getElem?_append_left h2] at hj
        exact hD1.1 i j x y hi hj hxy
      · rw [List.getElem?_append_left h1] at hi
        rw [List.getElem?_append_right (by omega)] at hj
        have := hle _ _ hi
        have := hr _ _ hj
        omega
      · rw [List.getElem?_append_right (by omega)] at hi
        rw [List.getElem?_append_left h2] at hj
        have := hle _ _ hj
        have := hr _ _ hi
        omega
      · rw [List.getElem?_append_right (by omega)] at hi hj
        have := hr _ _ hi
        have := hr _ _ hj
        omega
    · by_cases h1 : k9 < W1.length
      · rw [List.getElem?_append_left h1] at hx
        exact hD1.2 k9 x hx
      · rw [List.getElem?_append_right (by omega)] at hx
        have := hr _ _ hx
        exact hA _ (by have := hS.1; omega)
  have hAr : ArrOfT s cA (.array ty) := fun N9 z9 => by
    obtain ⟨-, k9, hk9, cm9, hkk9⟩ := (hO 0 0 0).1
    exact ⟨(fun q hq => by cases hq), k9, hk9, cm9, hkk9⟩
  have hK2 : va_K D cl (tys ++ [(cA, .array ty)]) s := ⟨hK.1, fun k9 x hx => by
    by_cases hl : k9 < tys.length
    · rw [List.getElem?_append_left hl] at hx
      exact hK.2 k9 x hx
    · rw [List.getElem?_append_right (by omega)] at hx
      have h0 : k9 - tys.length < 1 := (List.getElem?_eq_some_iff.mp hx).1
      rw [show k9 - tys.length = 0 by omega] at hx
      cases hx
      exact ⟨hAr, fA⟩⟩
  obtain ⟨t, a1, b1⟩ := kk H.size (fun i => H.size + 1 + i) cA F.heap rfl (fun _ => rfl) (fun i j _ _ h => by have h9 : H.size + 1 + i = H.size + 1 + j := h; omega) hnl hK2 (by rw [← vr_rows hnm]; exact vr_lay hP2) (by rw [← vr_rows hnm]; exact vr_layD hD2) ⟨by rw [f1]; have := hS.1; omega, fun x h1 h2 => (hold x (Nat.lt_of_lt_of_le h1 hS.1)).trans (hS.2.1 x h1 h2), hS.2.2⟩ F rfl X'
  refine ⟨t, step t ?_, b1⟩
  have e : T.heap.size = H.size := by rw [hT]
  rw [e]
  exact a1
end VGM
/-! ===== END ===== -/

def RX0 : String := "LetByColours$Lamp"
def TX0 : u_T := fun k => match k with
  | 0 => ("LetByColours$Lamp", "shine", "[I", true)
  | 1 => ("LetByColours$Lamp", "own", "[I", true)
  | 2 => ("LetByColours$Lamp", "ofColour", "[I", true)
  | _ => ("LetByColours$Lamp", "owned", "I", false)
def tyX0 : Nat → FieldType := fun k => match k with
  | 0 => .array .int
  | 1 => .array .int
  | 2 => .array .int
  | _ => .int
abbrev wsX00 : List Cond := u_ws RX0 TX0 4
theorem nmX0 : ∀ a, a < 4 → ∀ b, b < 4 → a ≠ b → (TX0 a).2.1 ≠ (TX0 b).2.1 := by decide +kernel
theorem tyX0_ok : ∀ k, k < 4 → parseFieldDescriptor (TX0 k).2.2.1 = some (tyX0 k) := by decide +kernel
abbrev cX0_init : ByteArray := prog_2_method_1_code
def yX0_init : MethodName := ⟨RX0, "<init>", "()V"⟩
abbrev cX0_turn : ByteArray := prog_2_method_2_code
def yX0_turn : MethodName := ⟨RX0, "turn", "(LLetByColours$Leases;LLetByColours$State;)V"⟩
abbrev cX0_show : ByteArray := prog_2_method_3_code
def yX0_show : MethodName := ⟨RX0, "show", "(LLetByColours$Leases;II)V"⟩
abbrev cX0_colourAt : ByteArray := prog_2_method_4_code
def yX0_colourAt : MethodName := ⟨RX0, "colourAt", "(I)I"⟩
abbrev cX0_ownerAt : ByteArray := prog_2_method_5_code
def yX0_ownerAt : MethodName := ⟨RX0, "ownerAt", "(I)I"⟩
abbrev cX0_firstSign : ByteArray := prog_2_method_6_code
def yX0_firstSign : MethodName := ⟨RX0, "firstSign", "(II)I"⟩
abbrev cX0_sureShips : ByteArray := prog_2_method_7_code
def yX0_sureShips : MethodName := ⟨RX0, "sureShips", "(LLetByColours$Leases;I)I"⟩
abbrev cX0_sureInAnyFog : ByteArray := prog_2_method_8_code
def yX0_sureInAnyFog : MethodName := ⟨RX0, "sureInAnyFog", "(LLetByColours$Leases;)I"⟩
abbrev cX0_unsureInAllFogs : ByteArray := prog_2_method_9_code
def yX0_unsureInAllFogs : MethodName := ⟨RX0, "unsureInAllFogs", "(LLetByColours$Leases;)I"⟩
def RX1 : String := "LetByColours$Leases"
def TX1 : u_T := fun k => match k with
  | 0 => ("LetByColours$Leases", "tenants", "I", false)
  | 1 => ("LetByColours$Leases", "colour", "[I", true)
  | 2 => ("LetByColours$Leases", "start", "[I", true)
  | 3 => ("LetByColours$Leases", "width", "[I", true)
  | 4 => ("LetByColours$Leases", "rent", "[I", true)
  | 5 => ("LetByColours$Leases", "kind", "[I", true)
  | 6 => ("LetByColours$Leases", "ships", "I", false)
  | 7 => ("LetByColours$Leases", "shipStart", "[I", true)
  | 8 => ("LetByColours$Leases", "shipWidth", "[I", true)
  | 9 => ("LetByColours$Leases", "shipSees", "[I", true)
  | 10 => ("LetByColours$Leases", "fogTenths", "[I", true)
  | _ => ("LetByColours$Leases", "limit", "I", false)
def tyX1 : Nat → FieldType := fun k => match k with
  | 0 => .int
  | 1 => .array .int
  | 2 => .array .int
  | 3 => .array .int
  | 4 => .array .int
  | 5 => .array .int
  | 6 => .int
  | 7 => .array .int
  | 8 => .array .int
  | 9 => .array .int
  | 10 => .array .int
  | _ => .int
abbrev wsX10 : List Cond := u_ws RX1 TX1 12
theorem nmX1 : ∀ a, a < 12 → ∀ b, b < 12 → a ≠ b → (TX1 a).2.1 ≠ (TX1 b).2.1 := by decide +kernel
theorem tyX1_ok : ∀ k, k < 12 → parseFieldDescriptor (TX1 k).2.2.1 = some (tyX1 k) := by decide +kernel
abbrev cX1_init : ByteArray := prog_3_method_1_code
def yX1_init : MethodName := ⟨RX1, "<init>", "()V"⟩
abbrev cX1_clear : ByteArray := prog_3_method_2_code
def yX1_clear : MethodName := ⟨RX1, "clear", "()V"⟩
abbrev cX1_everybody : ByteArray := prog_3_method_3_code
def yX1_everybody : MethodName := ⟨RX1, "everybody", "()I"⟩
abbrev cX1_allShips : ByteArray := prog_3_method_4_code
def yX1_allShips : MethodName := ⟨RX1, "allShips", "()I"⟩
abbrev cX1_accept : ByteArray := prog_3_method_5_code
def yX1_accept : MethodName := ⟨RX1, "accept", "(I[I)Z"⟩
abbrev cX1_isPlace : ByteArray := prog_3_method_6_code
def yX1_isPlace : MethodName := ⟨RX1, "isPlace", "(II)Z"⟩
abbrev cX1_addTenant : ByteArray := prog_3_method_7_code
def yX1_addTenant : MethodName := ⟨RX1, "addTenant", "([I)Z"⟩
abbrev cX1_addShip : ByteArray := prog_3_method_8_code
def yX1_addShip : MethodName := ⟨RX1, "addShip", "(II)Z"⟩
abbrev cX1_setFog : ByteArray := prog_3_method_9_code
def yX1_setFog : MethodName := ⟨RX1, "setFog", "(III)Z"⟩
abbrev cX1_setLimit : ByteArray := prog_3_method_10_code
def yX1_setLimit : MethodName := ⟨RX1, "setLimit", "(I)Z"⟩
abbrev cX1_paysMostOfHisColour : ByteArray := prog_3_method_11_code
def yX1_paysMostOfHisColour : MethodName := ⟨RX1, "paysMostOfHisColour", "(I)Z"⟩
abbrev cX1_shineOf : ByteArray := prog_3_method_12_code
def yX1_shineOf : MethodName := ⟨RX1, "shineOf", "(IIII)I"⟩
def RX2 : String := "LetByColours$Letters"
def TX2 : u_T := fun k => match k with
  | 0 => ("LetByColours$Letters", "row", "[I", true)
  | _ => ("LetByColours$Letters", "length", "I", false)
def tyX2 : Nat → FieldType := fun k => match k with
  | 0 => .array .int
  | _ => .int
abbrev wsX20 : List Cond := u_ws RX2 TX2 2
theorem nmX2 : ∀ a, a < 2 → ∀ b, b < 2 → a ≠ b → (TX2 a).2.1 ≠ (TX2 b).2.1 := by decide +kernel
theorem tyX2_ok : ∀ k, k < 2 → parseFieldDescriptor (TX2 k).2.2.1 = some (tyX2 k) := by decide +kernel
abbrev cX2_init : ByteArray := prog_4_method_1_code
def yX2_init : MethodName := ⟨RX2, "<init>", "()V"⟩
abbrev cX2_append : ByteArray := prog_4_method_2_code
def yX2_append : MethodName := ⟨RX2, "append", "(I)Z"⟩
abbrev cX2_at : ByteArray := prog_4_method_3_code
def yX2_at : MethodName := ⟨RX2, "at", "(I)I"⟩
abbrev cX2_isFigure : ByteArray := prog_4_method_4_code
def yX2_isFigure : MethodName := ⟨RX2, "isFigure", "(I)Z"⟩
def RX3 : String := "LetByColours$Looks"
def TX3 : u_T := fun k => match k with
  | 0 => ("LetByColours$Looks", "stripe", "[I", true)
  | 1 => ("LetByColours$Looks", "colour", "[I", true)
  | _ => ("LetByColours$Looks", "size", "I", false)
def tyX3 : Nat → FieldType := fun k => match k with
  | 0 => .array .int
  | 1 => .array .int
  | _ => .int
abbrev wsX30 : List Cond := u_ws RX3 TX3 3
theorem nmX3 : ∀ a, a < 3 → ∀ b, b < 3 → a ≠ b → (TX3 a).2.1 ≠ (TX3 b).2.1 := by decide +kernel
theorem tyX3_ok : ∀ k, k < 3 → parseFieldDescriptor (TX3 k).2.2.1 = some (tyX3 k) := by decide +kernel
abbrev cX3_init : ByteArray := prog_5_method_1_code
def yX3_init : MethodName := ⟨RX3, "<init>", "()V"⟩
abbrev cX3_append : ByteArray := prog_5_method_2_code
def yX3_append : MethodName := ⟨RX3, "append", "(II)Z"⟩
abbrev cX3_fit : ByteArray := prog_5_method_3_code
def yX3_fit : MethodName := ⟨RX3, "fit", "(LLetByColours$Lamp;)Z"⟩
abbrev cX3_darkStripes : ByteArray := prog_5_method_4_code
def yX3_darkStripes : MethodName := ⟨RX3, "darkStripes", "()I"⟩
def RX4 : String := "LetByColours$Pile"
def TX4 : u_T := fun k => match k with
  | 0 => ("LetByColours$Pile", "rows", "[LLetByColours$State;", true)
  | 1 => ("LetByColours$Pile", "bottom", "I", false)
  | _ => ("LetByColours$Pile", "size", "I", false)
def tyX4 : Nat → FieldType := fun k => match k with
  | 0 => .array (.object "LetByColours$State")
  | 1 => .int
  | _ => .int
abbrev wsX40 : List Cond := u_ws RX4 TX4 3
theorem nmX4 : ∀ a, a < 3 → ∀ b, b < 3 → a ≠ b → (TX4 a).2.1 ≠ (TX4 b).2.1 := by decide +kernel
theorem tyX4_ok : ∀ k, k < 3 → parseFieldDescriptor (TX4 k).2.2.1 = some (tyX4 k) := by decide +kernel
abbrev cX4_init : ByteArray := prog_6_method_1_code
def yX4_init : MethodName := ⟨RX4, "<init>", "(I)V"⟩
abbrev cX4_rowAt : ByteArray := prog_6_method_2_code
def yX4_rowAt : MethodName := ⟨RX4, "rowAt", "(I)I"⟩
abbrev cX4_put : ByteArray := prog_6_method_3_code
def yX4_put : MethodName := ⟨RX4, "put", "(LLetByColours$State;)V"⟩
abbrev cX4_takeInto : ByteArray := prog_6_method_4_code
def yX4_takeInto : MethodName := ⟨RX4, "takeInto", "(LLetByColours$State;)Z"⟩
def RX5 : String := "LetByColours$Reader"
def TX5 : u_T := fun k => match k with
  | _ => ("LetByColours$Reader", "numbers", "[I", true)
def tyX5 : Nat → FieldType := fun k => match k with
  | _ => .array .int
abbrev wsX50 : List Cond := u_ws RX5 TX5 1
theorem nmX5 : ∀ a, a < 1 → ∀ b, b < 1 → a ≠ b → (TX5 a).2.1 ≠ (TX5 b).2.1 := by decide +kernel
theorem tyX5_ok : ∀ k, k < 1 → parseFieldDescriptor (TX5 k).2.2.1 = some (tyX5 k) := by decide +kernel
abbrev cX5_init : ByteArray := prog_7_method_1_code
def yX5_init : MethodName := ⟨RX5, "<init>", "()V"⟩
abbrev cX5_readAll : ByteArray := prog_7_method_2_code
def yX5_readAll : MethodName := ⟨RX5, "readAll", "(LLetByColours$Letters;LLetByColours$Leases;)I"⟩
abbrev cX5_readItem : ByteArray := prog_7_method_3_code
def yX5_readItem : MethodName := ⟨RX5, "readItem", "(LLetByColours$Letters;ILLetByColours$Leases;)I"⟩
abbrev cX5_numbersBehind : ByteArray := prog_7_method_4_code
def yX5_numbersBehind : MethodName := ⟨RX5, "numbersBehind", "(I)I"⟩
abbrev cX5_numberAt : ByteArray := prog_7_method_5_code
def yX5_numberAt : MethodName := ⟨RX5, "numberAt", "(LLetByColours$Letters;II)I"⟩
def RX6 : String := "LetByColours$Search"
def TX6 : u_T := fun k => match k with
  | 0 => ("LetByColours$Search", "shineAt", "[[I", true)
  | 1 => ("LetByColours$Search", "way", "[I", true)
  | 2 => ("LetByColours$Search", "best", "[I", true)
  | _ => ("LetByColours$Search", "bestSure", "I", false)
def tyX6 : Nat → FieldType := fun k => match k with
  | 0 => .array (.array .int)
  | 1 => .array .int
  | 2 => .array .int
  | _ => .int
abbrev wsX60 : List Cond := u_ws RX6 TX6 4
theorem nmX6 : ∀ a, a < 4 → ∀ b, b < 4 → a ≠ b → (TX6 a).2.1 ≠ (TX6 b).2.1 := by decide +kernel
theorem tyX6_ok : ∀ k, k < 4 → parseFieldDescriptor (TX6 k).2.2.1 = some (tyX6 k) := by decide +kernel
abbrev cX6_init : ByteArray := prog_8_method_1_code
def yX6_init : MethodName := ⟨RX6, "<init>", "()V"⟩
abbrev cX6_run : ByteArray := prog_8_method_2_code
def yX6_run : MethodName := ⟨RX6, "run", "(LLetByColours$Leases;LLetByColours$State;LLetByColours$Lamp;)V"⟩
abbrev cX6_prepare : ByteArray := prog_8_method_3_code
def yX6_prepare : MethodName := ⟨RX6, "prepare", "(LLetByColours$Leases;LLetByColours$State;)V"⟩
abbrev cX6_nextWay : ByteArray := prog_8_method_4_code
def yX6_nextWay : MethodName := ⟨RX6, "nextWay", "(I)Z"⟩
def RX7 : String := "LetByColours$State"
def TX7 : u_T := fun k => match k with
  | 0 => ("LetByColours$State", "night", "I", false)
  | 1 => ("LetByColours$State", "arrears", "[I", true)
  | 2 => ("LetByColours$State", "start", "[I", true)
  | 3 => ("LetByColours$State", "width", "[I", true)
  | _ => ("LetByColours$State", "smoked", "I", false)
def tyX7 : Nat → FieldType := fun k => match k with
  | 0 => .int
  | 1 => .array .int
  | 2 => .array .int
  | 3 => .array .int
  | _ => .int
abbrev wsX70 : List Cond := u_ws RX7 TX7 5
theorem nmX7 : ∀ a, a < 5 → ∀ b, b < 5 → a ≠ b → (TX7 a).2.1 ≠ (TX7 b).2.1 := by decide +kernel
theorem tyX7_ok : ∀ k, k < 5 → parseFieldDescriptor (TX7 k).2.2.1 = some (tyX7 k) := by decide +kernel
abbrev cX7_init : ByteArray := prog_9_method_1_code
def yX7_init : MethodName := ⟨RX7, "<init>", "()V"⟩
abbrev cX7_begin : ByteArray := prog_9_method_2_code
def yX7_begin : MethodName := ⟨RX7, "begin", "(LLetByColours$Leases;)V"⟩
abbrev cX7_copy : ByteArray := prog_9_method_3_code
def yX7_copy : MethodName := ⟨RX7, "copy", "(LLetByColours$State;)V"⟩
abbrev cX7_goBy : ByteArray := prog_9_method_4_code
def yX7_goBy : MethodName := ⟨RX7, "goBy", "(LLetByColours$Leases;I)V"⟩
abbrev cX7_paying : ByteArray := prog_9_method_5_code
def yX7_paying : MethodName := ⟨RX7, "paying", "(LLetByColours$Leases;)I"⟩
def RX8 : String := "LetByColours"
def TX8 : u_T := fun k => match k with
  | 0 => ("LetByColours", "text", "LLetByColours$Letters;", true)
  | 1 => ("LetByColours", "reader", "LLetByColours$Reader;", true)
  | 2 => ("LetByColours", "laid", "LLetByColours$Leases;", false)
  | 3 => ("LetByColours", "draft", "LLetByColours$Leases;", false)
  | 4 => ("LetByColours", "state", "LLetByColours$State;", true)
  | 5 => ("LetByColours", "coming", "LLetByColours$State;", true)
  | 6 => ("LetByColours", "undoable", "LLetByColours$Pile;", true)
  | 7 => ("LetByColours", "kept", "LLetByColours$Pile;", true)
  | 8 => ("LetByColours", "looks", "LLetByColours$Looks;", true)
  | 9 => ("LetByColours", "lamp", "LLetByColours$Lamp;", true)
  | _ => ("LetByColours", "search", "LLetByColours$Search;", true)
def tyX8 : Nat → FieldType := fun k => match k with
  | 0 => .object "LetByColours$Letters"
  | 1 => .object "LetByColours$Reader"
  | 2 => .object "LetByColours$Leases"
  | 3 => .object "LetByColours$Leases"
  | 4 => .object "LetByColours$State"
  | 5 => .object "LetByColours$State"
  | 6 => .object "LetByColours$Pile"
  | 7 => .object "LetByColours$Pile"
  | 8 => .object "LetByColours$Looks"
  | 9 => .object "LetByColours$Lamp"
  | _ => .object "LetByColours$Search"
abbrev wsX80 : List Cond := u_ws RX8 TX8 11
theorem nmX8 : ∀ a, a < 11 → ∀ b, b < 11 → a ≠ b → (TX8 a).2.1 ≠ (TX8 b).2.1 := by decide +kernel
theorem tyX8_ok : ∀ k, k < 11 → parseFieldDescriptor (TX8 k).2.2.1 = some (tyX8 k) := by decide +kernel
abbrev cX8_init : ByteArray := prog_1_method_1_code
def yX8_init : MethodName := ⟨RX8, "<init>", "()V"⟩
abbrev cX8_write : ByteArray := prog_1_method_2_code
def yX8_write : MethodName := ⟨RX8, "write", "(I)I"⟩
abbrev cX8_wipe : ByteArray := prog_1_method_3_code
def yX8_wipe : MethodName := ⟨RX8, "wipe", "()I"⟩
abbrev cX8_fault : ByteArray := prog_1_method_4_code
def yX8_fault : MethodName := ⟨RX8, "fault", "()I"⟩
abbrev cX8_lay : ByteArray := prog_1_method_5_code
def yX8_lay : MethodName := ⟨RX8, "lay", "()I"⟩
abbrev cX8_tenant : ByteArray := prog_1_method_6_code
def yX8_tenant : MethodName := ⟨RX8, "tenant", "(II)I"⟩
abbrev cX8_ship : ByteArray := prog_1_method_7_code
def yX8_ship : MethodName := ⟨RX8, "ship", "(II)I"⟩
abbrev cX8_stripe : ByteArray := prog_1_method_8_code
def yX8_stripe : MethodName := ⟨RX8, "stripe", "(II)I"⟩
abbrev cX8_pass : ByteArray := prog_1_method_9_code
def yX8_pass : MethodName := ⟨RX8, "pass", "(I)I"⟩
abbrev cX8_pay : ByteArray := prog_1_method_10_code
def yX8_pay : MethodName := ⟨RX8, "pay", "(II)I"⟩
abbrev cX8_change : ByteArray := prog_1_method_11_code
def yX8_change : MethodName := ⟨RX8, "change", "(II)I"⟩
abbrev cX8_smoke : ByteArray := prog_1_method_12_code
def yX8_smoke : MethodName := ⟨RX8, "smoke", "(I)I"⟩
abbrev cX8_undo : ByteArray := prog_1_method_13_code
def yX8_undo : MethodName := ⟨RX8, "undo", "()I"⟩
abbrev cX8_seen : ByteArray := prog_1_method_14_code
def yX8_seen : MethodName := ⟨RX8, "seen", "(II)I"⟩
abbrev cX8_sign : ByteArray := prog_1_method_15_code
def yX8_sign : MethodName := ⟨RX8, "sign", "(II)I"⟩
abbrev cX8_fleet : ByteArray := prog_1_method_16_code
def yX8_fleet : MethodName := ⟨RX8, "fleet", "(I)I"⟩
abbrev cX8_order : ByteArray := prog_1_method_17_code
def yX8_order : MethodName := ⟨RX8, "order", "(I)I"⟩
abbrev cX8_needed : ByteArray := prog_1_method_18_code
def yX8_needed : MethodName := ⟨RX8, "needed", "(I)I"⟩
abbrev cX8_least : ByteArray := prog_1_method_19_code
def yX8_least : MethodName := ⟨RX8, "least", "(I)I"⟩
abbrev cX8_rock : ByteArray := prog_1_method_20_code
def yX8_rock : MethodName := ⟨RX8, "rock", "(I)I"⟩
abbrev cX8_row : ByteArray := prog_1_method_21_code
def yX8_row : MethodName := ⟨RX8, "row", "(IIII)I"⟩
abbrev cX8_look : ByteArray := prog_1_method_22_code
def yX8_look : MethodName := ⟨RX8, "look", "(II)I"⟩
abbrev cX8_forget : ByteArray := prog_1_method_23_code
def yX8_forget : MethodName := ⟨RX8, "forget", "()I"⟩
abbrev cX8_behind : ByteArray := prog_1_method_24_code
def yX8_behind : MethodName := ⟨RX8, "behind", "(I)I"⟩
abbrev cX8_panes : ByteArray := prog_1_method_25_code
def yX8_panes : MethodName := ⟨RX8, "panes", "()I"⟩
abbrev cX8_odds : ByteArray := prog_1_method_26_code
def yX8_odds : MethodName := ⟨RX8, "odds", "(II)I"⟩
abbrev cX8_mean : ByteArray := prog_1_method_27_code
def yX8_mean : MethodName := ⟨RX8, "mean", "(I)I"⟩
abbrev cX8_owed : ByteArray := prog_1_method_28_code
def yX8_owed : MethodName := ⟨RX8, "owed", "(I)I"⟩
abbrev cX8_weeks : ByteArray := prog_1_method_29_code
def yX8_weeks : MethodName := ⟨RX8, "weeks", "(III)I"⟩
abbrev cX8_keep : ByteArray := prog_1_method_30_code
def yX8_keep : MethodName := ⟨RX8, "keep", "()I"⟩
abbrev cX8_back : ByteArray := prog_1_method_31_code
def yX8_back : MethodName := ⟨RX8, "back", "()I"⟩
abbrev cX8_count : ByteArray := prog_1_method_32_code
def yX8_count : MethodName := ⟨RX8, "count", "(I)I"⟩
abbrev cX8_within : ByteArray := prog_1_method_33_code
def yX8_within : MethodName := ⟨RX8, "within", "(III)Z"⟩
abbrev cX8_isStripe : ByteArray := prog_1_method_34_code
def yX8_isStripe : MethodName := ⟨RX8, "isStripe", "(I)Z"⟩
abbrev cX8_isFog : ByteArray := prog_1_method_35_code
def yX8_isFog : MethodName := ⟨RX8, "isFog", "(I)Z"⟩
abbrev cX8_isColourOrDark : ByteArray := prog_1_method_36_code
def yX8_isColourOrDark : MethodName := ⟨RX8, "isColourOrDark", "(I)Z"⟩
abbrev cX8_isTenant : ByteArray := prog_1_method_37_code
def yX8_isTenant : MethodName := ⟨RX8, "isTenant", "(I)Z"⟩
abbrev cX8_isShip : ByteArray := prog_1_method_38_code
def yX8_isShip : MethodName := ⟨RX8, "isShip", "(I)Z"⟩
abbrev cX8_coloursSeenIn : ByteArray := prog_1_method_39_code
def yX8_coloursSeenIn : MethodName := ⟨RX8, "coloursSeenIn", "(I)I"⟩
abbrev cX8_swap : ByteArray := prog_1_method_40_code
def yX8_swap : MethodName := ⟨RX8, "swap", "([III)V"⟩
abbrev cX8_stripesFrom : ByteArray := prog_1_method_41_code
def yX8_stripesFrom : MethodName := ⟨RX8, "stripesFrom", "(II)I"⟩
abbrev cX8_drawnFog : ByteArray := prog_1_method_42_code
def yX8_drawnFog : MethodName := ⟨RX8, "drawnFog", "(II)I"⟩
abbrev cX8_partOfTenths : ByteArray := prog_1_method_43_code
def yX8_partOfTenths : MethodName := ⟨RX8, "partOfTenths", "(II)I"⟩
abbrev cX8_lightAsNow : ByteArray := prog_1_method_44_code
def yX8_lightAsNow : MethodName := ⟨RX8, "lightAsNow", "()V"⟩
abbrev cX8_lightAs : ByteArray := prog_1_method_45_code
def yX8_lightAs : MethodName := ⟨RX8, "lightAs", "(LLetByColours$State;)V"⟩
abbrev cX8_sureByLightOf : ByteArray := prog_1_method_46_code
def yX8_sureByLightOf : MethodName := ⟨RX8, "sureByLightOf", "(II)I"⟩
abbrev cX8_sureTenths : ByteArray := prog_1_method_47_code
def yX8_sureTenths : MethodName := ⟨RX8, "sureTenths", "(I)I"⟩
def RX9 : String := "LetByColoursModel"
def TX9 : u_T := fun k => match k with
  | 0 => ("LetByColoursModel", "tenants", "I", false)
  | 1 => ("LetByColoursModel", "tenant", "[I", true)
  | 2 => ("LetByColoursModel", "ships", "I", false)
  | 3 => ("LetByColoursModel", "ship", "[I", true)
  | 4 => ("LetByColoursModel", "fog", "[I", true)
  | 5 => ("LetByColoursModel", "most", "I", false)
  | 6 => ("LetByColoursModel", "st", "[I", true)
  | 7 => ("LetByColoursModel", "acts", "I", false)
  | 8 => ("LetByColoursModel", "was", "[I", true)
  | 9 => ("LetByColoursModel", "keeps", "I", false)
  | 10 => ("LetByColoursModel", "kept", "[I", true)
  | 11 => ("LetByColoursModel", "looks", "I", false)
  | 12 => ("LetByColoursModel", "look", "[I", true)
  | 13 => ("LetByColoursModel", "text", "[I", true)
  | 14 => ("LetByColoursModel", "texted", "I", false)
  | 15 => ("LetByColoursModel", "at", "I", false)
  | 16 => ("LetByColoursModel", "told", "[I", true)
  | 17 => ("LetByColoursModel", "readTenants", "I", false)
  | 18 => ("LetByColoursModel", "readTenant", "[I", true)
  | 19 => ("LetByColoursModel", "readShips", "I", false)
  | 20 => ("LetByColoursModel", "readShip", "[I", true)
  | 21 => ("LetByColoursModel", "readFog", "[I", true)
  | 22 => ("LetByColoursModel", "readMost", "I", false)
  | 23 => ("LetByColoursModel", "read", "[I", true)
  | 24 => ("LetByColoursModel", "now", "[I", true)
  | 25 => ("LetByColoursModel", "out", "I", false)
  | 26 => ("LetByColoursModel", "whose", "[I", true)
  | 27 => ("LetByColoursModel", "colour", "[I", true)
  | 28 => ("LetByColoursModel", "order", "[I", true)
  | _ => ("LetByColoursModel", "best", "[I", true)
def tyX9 : Nat → FieldType := fun k => match k with
  | 0 => .int
  | 1 => .array .int
  | 2 => .int
  | 3 => .array .int
  | 4 => .array .int
  | 5 => .int
  | 6 => .array .int
  | 7 => .int
  | 8 => .array .int
  | 9 => .int
  | 10 => .array .int
  | 11 => .int
  | 12 => .array .int
  | 13 => .array .int
  | 14 => .int
  | 15 => .int
  | 16 => .array .int
  | 17 => .int
  | 18 => .array .int
  | 19 => .int
  | 20 => .array .int
  | 21 => .array .int
  | 22 => .int
  | 23 => .array .int
  | 24 => .array .int
  | 25 => .int
  | 26 => .array .int
  | 27 => .array .int
  | 28 => .array .int
  | _ => .array .int
abbrev wsX90 : List Cond := u_ws RX9 TX9 30
theorem nmX9 : ∀ a, a < 30 → ∀ b, b < 30 → a ≠ b → (TX9 a).2.1 ≠ (TX9 b).2.1 := by decide +kernel
theorem tyX9_ok : ∀ k, k < 30 → parseFieldDescriptor (TX9 k).2.2.1 = some (tyX9 k) := by decide +kernel
abbrev cX9_init : ByteArray := prog_11_method_1_code
def yX9_init : MethodName := ⟨RX9, "<init>", "()V"⟩
abbrev cX9_tells : ByteArray := prog_11_method_3_code
def yX9_tells : MethodName := ⟨RX9, "tells", "(IIIII)V"⟩
abbrev cX9_tellsShip : ByteArray := prog_11_method_4_code
def yX9_tellsShip : MethodName := ⟨RX9, "tellsShip", "(II)V"⟩
abbrev cX9_in : ByteArray := prog_11_method_5_code
def yX9_in : MethodName := ⟨RX9, "in", "(III)Z"⟩
abbrev cX9_has : ByteArray := prog_11_method_6_code
def yX9_has : MethodName := ⟨RX9, "has", "(II)Z"⟩
abbrev cX9_bits : ByteArray := prog_11_method_7_code
def yX9_bits : MethodName := ⟨RX9, "bits", "(I)I"⟩
abbrev cX9_isTenant : ByteArray := prog_11_method_8_code
def yX9_isTenant : MethodName := ⟨RX9, "isTenant", "(I)Z"⟩
abbrev cX9_isShip : ByteArray := prog_11_method_9_code
def yX9_isShip : MethodName := ⟨RX9, "isShip", "(I)Z"⟩
abbrev cX9_isStripe : ByteArray := prog_11_method_10_code
def yX9_isStripe : MethodName := ⟨RX9, "isStripe", "(I)Z"⟩
abbrev cX9_isFog : ByteArray := prog_11_method_11_code
def yX9_isFog : MethodName := ⟨RX9, "isFog", "(I)Z"⟩
abbrev cX9_write : ByteArray := prog_11_method_12_code
def yX9_write : MethodName := ⟨RX9, "write", "(I)I"⟩
abbrev cX9_wipe : ByteArray := prog_11_method_13_code
def yX9_wipe : MethodName := ⟨RX9, "wipe", "()I"⟩
abbrev cX9_letterAt : ByteArray := prog_11_method_14_code
def yX9_letterAt : MethodName := ⟨RX9, "letterAt", "(I)I"⟩
abbrev cX9_isFigure : ByteArray := prog_11_method_15_code
def yX9_isFigure : MethodName := ⟨RX9, "isFigure", "(I)Z"⟩
abbrev cX9_readNumbers : ByteArray := prog_11_method_16_code
def yX9_readNumbers : MethodName := ⟨RX9, "readNumbers", "(I)Z"⟩
abbrev cX9_isTold : ByteArray := prog_11_method_17_code
def yX9_isTold : MethodName := ⟨RX9, "isTold", "(III)Z"⟩
abbrev cX9_put : ByteArray := prog_11_method_18_code
def yX9_put : MethodName := ⟨RX9, "put", "([II[II)V"⟩
abbrev cX9_clearTold : ByteArray := prog_11_method_19_code
def yX9_clearTold : MethodName := ⟨RX9, "clearTold", "()V"⟩
abbrev cX9_tellsFog : ByteArray := prog_11_method_20_code
def yX9_tellsFog : MethodName := ⟨RX9, "tellsFog", "(III)V"⟩
abbrev cX9_readTenantOf : ByteArray := prog_11_method_21_code
def yX9_readTenantOf : MethodName := ⟨RX9, "readTenantOf", "()Z"⟩
abbrev cX9_readShipOf : ByteArray := prog_11_method_22_code
def yX9_readShipOf : MethodName := ⟨RX9, "readShipOf", "()Z"⟩
abbrev cX9_readFogOf : ByteArray := prog_11_method_23_code
def yX9_readFogOf : MethodName := ⟨RX9, "readFogOf", "()Z"⟩
abbrev cX9_readMostOf : ByteArray := prog_11_method_24_code
def yX9_readMostOf : MethodName := ⟨RX9, "readMostOf", "()Z"⟩
abbrev cX9_readItem : ByteArray := prog_11_method_25_code
def yX9_readItem : MethodName := ⟨RX9, "readItem", "()Z"⟩
abbrev cX9_fault : ByteArray := prog_11_method_26_code
def yX9_fault : MethodName := ⟨RX9, "fault", "()I"⟩
abbrev cX9_lay : ByteArray := prog_11_method_27_code
def yX9_lay : MethodName := ⟨RX9, "lay", "()I"⟩
abbrev cX9_settles : ByteArray := prog_11_method_28_code
def yX9_settles : MethodName := ⟨RX9, "settles", "()V"⟩
abbrev cX9_asItIs : ByteArray := prog_11_method_29_code
def yX9_asItIs : MethodName := ⟨RX9, "asItIs", "()V"⟩
abbrev cX9_behindNow : ByteArray := prog_11_method_30_code
def yX9_behindNow : MethodName := ⟨RX9, "behindNow", "()I"⟩
abbrev cX9_isProudest : ByteArray := prog_11_method_31_code
def yX9_isProudest : MethodName := ⟨RX9, "isProudest", "(I)Z"⟩
abbrev cX9_shines : ByteArray := prog_11_method_32_code
def yX9_shines : MethodName := ⟨RX9, "shines", "(II)Z"⟩
abbrev cX9_paint : ByteArray := prog_11_method_33_code
def yX9_paint : MethodName := ⟨RX9, "paint", "()V"⟩
abbrev cX9_isSeen : ByteArray := prog_11_method_34_code
def yX9_isSeen : MethodName := ⟨RX9, "isSeen", "(II)Z"⟩
abbrev cX9_sees : ByteArray := prog_11_method_35_code
def yX9_sees : MethodName := ⟨RX9, "sees", "(II)Z"⟩
abbrev cX9_signOf : ByteArray := prog_11_method_36_code
def yX9_signOf : MethodName := ⟨RX9, "signOf", "(II)I"⟩
abbrev cX9_sureIn : ByteArray := prog_11_method_37_code
def yX9_sureIn : MethodName := ⟨RX9, "sureIn", "(I)I"⟩
abbrev cX9_sureInAny : ByteArray := prog_11_method_38_code
def yX9_sureInAny : MethodName := ⟨RX9, "sureInAny", "()I"⟩
abbrev cX9_tenant : ByteArray := prog_11_method_39_code
def yX9_tenant : MethodName := ⟨RX9, "tenant", "(II)I"⟩
abbrev cX9_ship : ByteArray := prog_11_method_40_code
def yX9_ship : MethodName := ⟨RX9, "ship", "(II)I"⟩
abbrev cX9_stripe : ByteArray := prog_11_method_41_code
def yX9_stripe : MethodName := ⟨RX9, "stripe", "(II)I"⟩
abbrev cX9_remembers : ByteArray := prog_11_method_42_code
def yX9_remembers : MethodName := ⟨RX9, "remembers", "()V"⟩
abbrev cX9_pass : ByteArray := prog_11_method_43_code
def yX9_pass : MethodName := ⟨RX9, "pass", "(I)I"⟩
abbrev cX9_pay : ByteArray := prog_11_method_44_code
def yX9_pay : MethodName := ⟨RX9, "pay", "(II)I"⟩
abbrev cX9_swap : ByteArray := prog_11_method_45_code
def yX9_swap : MethodName := ⟨RX9, "swap", "([III)V"⟩
abbrev cX9_change : ByteArray := prog_11_method_46_code
def yX9_change : MethodName := ⟨RX9, "change", "(II)I"⟩
abbrev cX9_smoke : ByteArray := prog_11_method_47_code
def yX9_smoke : MethodName := ⟨RX9, "smoke", "(I)I"⟩
abbrev cX9_undo : ByteArray := prog_11_method_48_code
def yX9_undo : MethodName := ⟨RX9, "undo", "()I"⟩
abbrev cX9_seen : ByteArray := prog_11_method_49_code
def yX9_seen : MethodName := ⟨RX9, "seen", "(II)I"⟩
abbrev cX9_sign : ByteArray := prog_11_method_50_code
def yX9_sign : MethodName := ⟨RX9, "sign", "(II)I"⟩
abbrev cX9_fleet : ByteArray := prog_11_method_51_code
def yX9_fleet : MethodName := ⟨RX9, "fleet", "(I)I"⟩
abbrev cX9_isOrder : ByteArray := prog_11_method_52_code
def yX9_isOrder : MethodName := ⟨RX9, "isOrder", "(I)Z"⟩
abbrev cX9_order : ByteArray := prog_11_method_53_code
def yX9_order : MethodName := ⟨RX9, "order", "(I)I"⟩
abbrev cX9_needed : ByteArray := prog_11_method_54_code
def yX9_needed : MethodName := ⟨RX9, "needed", "(I)I"⟩
abbrev cX9_least : ByteArray := prog_11_method_55_code
def yX9_least : MethodName := ⟨RX9, "least", "(I)I"⟩
abbrev cX9_rock : ByteArray := prog_11_method_56_code
def yX9_rock : MethodName := ⟨RX9, "rock", "(I)I"⟩
abbrev cX9_row : ByteArray := prog_11_method_57_code
def yX9_row : MethodName := ⟨RX9, "row", "(IIII)I"⟩
abbrev cX9_look : ByteArray := prog_11_method_58_code
def yX9_look : MethodName := ⟨RX9, "look", "(II)I"⟩
abbrev cX9_forget : ByteArray := prog_11_method_59_code
def yX9_forget : MethodName := ⟨RX9, "forget", "()I"⟩
abbrev cX9_behind : ByteArray := prog_11_method_60_code
def yX9_behind : MethodName := ⟨RX9, "behind", "(I)I"⟩
abbrev cX9_panes : ByteArray := prog_11_method_61_code
def yX9_panes : MethodName := ⟨RX9, "panes", "()I"⟩
abbrev cX9_tenths : ByteArray := prog_11_method_62_code
def yX9_tenths : MethodName := ⟨RX9, "tenths", "(I)I"⟩
abbrev cX9_lowest : ByteArray := prog_11_method_63_code
def yX9_lowest : MethodName := ⟨RX9, "lowest", "(III)I"⟩
abbrev cX9_odds : ByteArray := prog_11_method_64_code
def yX9_odds : MethodName := ⟨RX9, "odds", "(II)I"⟩
abbrev cX9_mean : ByteArray := prog_11_method_65_code
def yX9_mean : MethodName := ⟨RX9, "mean", "(I)I"⟩
abbrev cX9_owed : ByteArray := prog_11_method_66_code
def yX9_owed : MethodName := ⟨RX9, "owed", "(I)I"⟩
abbrev cX9_weeks : ByteArray := prog_11_method_67_code
def yX9_weeks : MethodName := ⟨RX9, "weeks", "(III)I"⟩
abbrev cX9_keep : ByteArray := prog_11_method_68_code
def yX9_keep : MethodName := ⟨RX9, "keep", "()I"⟩
abbrev cX9_back : ByteArray := prog_11_method_69_code
def yX9_back : MethodName := ⟨RX9, "back", "()I"⟩
abbrev cX9_count : ByteArray := prog_11_method_70_code
def yX9_count : MethodName := ⟨RX9, "count", "(I)I"⟩
def RJx145de : String := "java/io/Serializable"
def TJx145de : u_T := fun k => match k with
  | _ => ("", "", "", false)
def tyJx145de : Nat → FieldType := fun k => match k with
  | _ => .int
abbrev wsJx145de0 : List Cond := u_ws RJx145de TJx145de 0
theorem nmJx145de : ∀ a, a < 0 → ∀ b, b < 0 → a ≠ b → (TJx145de a).2.1 ≠ (TJx145de b).2.1 := by decide +kernel
theorem tyJx145de_ok : ∀ k, k < 0 → parseFieldDescriptor (TJx145de k).2.2.1 = some (tyJx145de k) := by decide +kernel
def RJx9f9b0 : String := "java/lang/CharSequence"
def TJx9f9b0 : u_T := fun k => match k with
  | _ => ("", "", "", false)
def tyJx9f9b0 : Nat → FieldType := fun k => match k with
  | _ => .int
abbrev wsJx9f9b00 : List Cond := u_ws RJx9f9b0 TJx9f9b0 0
theorem nmJx9f9b0 : ∀ a, a < 0 → ∀ b, b < 0 → a ≠ b → (TJx9f9b0 a).2.1 ≠ (TJx9f9b0 b).2.1 := by decide +kernel
theorem tyJx9f9b0_ok : ∀ k, k < 0 → parseFieldDescriptor (TJx9f9b0 k).2.2.1 = some (tyJx9f9b0 k) := by decide +kernel
def RJxb160c : String := "java/lang/Comparable"
def TJxb160c : u_T := fun k => match k with
  | _ => ("", "", "", false)
def tyJxb160c : Nat → FieldType := fun k => match k with
  | _ => .int
abbrev wsJxb160c0 : List Cond := u_ws RJxb160c TJxb160c 0
theorem nmJxb160c : ∀ a, a < 0 → ∀ b, b < 0 → a ≠ b → (TJxb160c a).2.1 ≠ (TJxb160c b).2.1 := by decide +kernel
theorem tyJxb160c_ok : ∀ k, k < 0 → parseFieldDescriptor (TJxb160c k).2.2.1 = some (tyJxb160c k) := by decide +kernel
def RJ6 : String := "java/lang/Integer"
def TJ6 : u_T := fun k => match k with
  | _ => ("", "", "", false)
def tyJ6 : Nat → FieldType := fun k => match k with
  | _ => .int
abbrev wsJ60 : List Cond := u_ws RJ6 TJ6 0
theorem nmJ6 : ∀ a, a < 0 → ∀ b, b < 0 → a ≠ b → (TJ6 a).2.1 ≠ (TJ6 b).2.1 := by decide +kernel
theorem tyJ6_ok : ∀ k, k < 0 → parseFieldDescriptor (TJ6 k).2.2.1 = some (tyJ6 k) := by decide +kernel
abbrev cJ6_bitCount_0f7a4 : ByteArray := prog_12_method_49_code
def yJ6_bitCount_0f7a4 : MethodName := ⟨RJ6, "bitCount", "(I)I"⟩
def RJ9 : String := "java/lang/Math"
def TJ9 : u_T := fun k => match k with
  | _ => ("", "", "", false)
def tyJ9 : Nat → FieldType := fun k => match k with
  | _ => .int
abbrev wsJ90 : List Cond := u_ws RJ9 TJ9 0
theorem nmJ9 : ∀ a, a < 0 → ∀ b, b < 0 → a ≠ b → (TJ9 a).2.1 ≠ (TJ9 b).2.1 := by decide +kernel
theorem tyJ9_ok : ∀ k, k < 0 → parseFieldDescriptor (TJ9 k).2.2.1 = some (tyJ9 k) := by decide +kernel
abbrev cJ9_max_7cf53 : ByteArray := prog_13_method_65_code
def yJ9_max_7cf53 : MethodName := ⟨RJ9, "max", "(II)I"⟩
def RJ0 : String := "java/lang/String"
def TJ0 : u_T := fun k => match k with
  | _ => ("", "", "", false)
def tyJ0 : Nat → FieldType := fun k => match k with
  | _ => .int
abbrev wsJ00 : List Cond := u_ws RJ0 TJ0 0
theorem nmJ0 : ∀ a, a < 0 → ∀ b, b < 0 → a ≠ b → (TJ0 a).2.1 ≠ (TJ0 b).2.1 := by decide +kernel
theorem tyJ0_ok : ∀ k, k < 0 → parseFieldDescriptor (TJ0 k).2.2.1 = some (tyJ0 k) := by decide +kernel
abbrev cJ0_length_8abf5 : ByteArray := prog_14_method_54_code
def yJ0_length_8abf5 : MethodName := ⟨RJ0, "length", "()I"⟩
abbrev cJ0_charAt_5068e : ByteArray := prog_14_method_56_code
def yJ0_charAt_5068e : MethodName := ⟨RJ0, "charAt", "(I)C"⟩
abbrev cJ0_coder_7d493 : ByteArray := prog_14_method_152_code
def yJ0_coder_7d493 : MethodName := ⟨RJ0, "coder", "()B"⟩
abbrev cJ0_isLatin1_aae02 : ByteArray := prog_14_method_154_code
def yJ0_isLatin1_aae02 : MethodName := ⟨RJ0, "isLatin1", "()Z"⟩
abbrev cJ0_checkIndex_df160 : ByteArray := prog_14_method_155_code
def yJ0_checkIndex_df160 : MethodName := ⟨RJ0, "checkIndex", "(II)V"⟩
def RJ1 : String := "java/lang/StringLatin1"
def TJ1 : u_T := fun k => match k with
  | _ => ("", "", "", false)
def tyJ1 : Nat → FieldType := fun k => match k with
  | _ => .int
abbrev wsJ10 : List Cond := u_ws RJ1 TJ1 0
theorem nmJ1 : ∀ a, a < 0 → ∀ b, b < 0 → a ≠ b → (TJ1 a).2.1 ≠ (TJ1 b).2.1 := by decide +kernel
theorem tyJ1_ok : ∀ k, k < 0 → parseFieldDescriptor (TJ1 k).2.2.1 = some (tyJ1 k) := by decide +kernel
abbrev cJ1_charAt_3b067 : ByteArray := prog_15_method_2_code
def yJ1_charAt_3b067 : MethodName := ⟨RJ1, "charAt", "([BI)C"⟩
def RJ2 : String := "java/lang/StringUTF16"
def TJ2 : u_T := fun k => match k with
  | _ => ("", "", "", false)
def tyJ2 : Nat → FieldType := fun k => match k with
  | _ => .int
abbrev wsJ20 : List Cond := u_ws RJ2 TJ2 0
theorem nmJ2 : ∀ a, a < 0 → ∀ b, b < 0 → a ≠ b → (TJ2 a).2.1 ≠ (TJ2 b).2.1 := by decide +kernel
theorem tyJ2_ok : ∀ k, k < 0 → parseFieldDescriptor (TJ2 k).2.2.1 = some (tyJ2 k) := by decide +kernel
abbrev cJ2_getChar_3b067 : ByteArray := prog_16_method_5_code
def yJ2_getChar_3b067 : MethodName := ⟨RJ2, "getChar", "([BI)C"⟩
abbrev cJ2_length_9d52b : ByteArray := prog_16_method_6_code
def yJ2_length_9d52b : MethodName := ⟨RJ2, "length", "([B)I"⟩
abbrev cJ2_charAt_3b067 : ByteArray := prog_16_method_83_code
def yJ2_charAt_3b067 : MethodName := ⟨RJ2, "charAt", "([BI)C"⟩
abbrev cJ2_checkIndex_2214a : ByteArray := prog_16_method_91_code
def yJ2_checkIndex_2214a : MethodName := ⟨RJ2, "checkIndex", "(I[B)V"⟩
def RJ10 : String := "java/lang/System"
def TJ10 : u_T := fun k => match k with
  | _ => ("", "", "", false)
def tyJ10 : Nat → FieldType := fun k => match k with
  | _ => .int
abbrev wsJ100 : List Cond := u_ws RJ10 TJ10 0
theorem nmJ10 : ∀ a, a < 0 → ∀ b, b < 0 → a ≠ b → (TJ10 a).2.1 ≠ (TJ10 b).2.1 := by decide +kernel
theorem tyJ10_ok : ∀ k, k < 0 → parseFieldDescriptor (TJ10 k).2.2.1 = some (tyJ10 k) := by decide +kernel
def RJxfd54e : String := "java/lang/constant/Constable"
def TJxfd54e : u_T := fun k => match k with
  | _ => ("", "", "", false)
def tyJxfd54e : Nat → FieldType := fun k => match k with
  | _ => .int
abbrev wsJxfd54e0 : List Cond := u_ws RJxfd54e TJxfd54e 0
theorem nmJxfd54e : ∀ a, a < 0 → ∀ b, b < 0 → a ≠ b → (TJxfd54e a).2.1 ≠ (TJxfd54e b).2.1 := by decide +kernel
theorem tyJxfd54e_ok : ∀ k, k < 0 → parseFieldDescriptor (TJxfd54e k).2.2.1 = some (tyJxfd54e k) := by decide +kernel
def RJx3cf43 : String := "java/lang/constant/ConstantDesc"
def TJx3cf43 : u_T := fun k => match k with
  | _ => ("", "", "", false)
def tyJx3cf43 : Nat → FieldType := fun k => match k with
  | _ => .int
abbrev wsJx3cf430 : List Cond := u_ws RJx3cf43 TJx3cf43 0
theorem nmJx3cf43 : ∀ a, a < 0 → ∀ b, b < 0 → a ≠ b → (TJx3cf43 a).2.1 ≠ (TJx3cf43 b).2.1 := by decide +kernel
theorem tyJx3cf43_ok : ∀ k, k < 0 → parseFieldDescriptor (TJx3cf43 k).2.2.1 = some (tyJx3cf43 k) := by decide +kernel
def RJ7 : String := "java/util/Arrays"
def TJ7 : u_T := fun k => match k with
  | _ => ("", "", "", false)
def tyJ7 : Nat → FieldType := fun k => match k with
  | _ => .int
abbrev wsJ70 : List Cond := u_ws RJ7 TJ7 0
theorem nmJ7 : ∀ a, a < 0 → ∀ b, b < 0 → a ≠ b → (TJ7 a).2.1 ≠ (TJ7 b).2.1 := by decide +kernel
theorem tyJ7_ok : ∀ k, k < 0 → parseFieldDescriptor (TJ7 k).2.2.1 = some (tyJ7 k) := by decide +kernel
abbrev cJ7_fill_53178 : ByteArray := prog_18_method_103_code
def yJ7_fill_53178 : MethodName := ⟨RJ7, "fill", "([II)V"⟩
def RJ3 : String := "jdk/internal/util/Preconditions"
def TJ3 : u_T := fun k => match k with
  | _ => ("", "", "", false)
def tyJ3 : Nat → FieldType := fun k => match k with
  | _ => .int
abbrev wsJ30 : List Cond := u_ws RJ3 TJ3 0
theorem nmJ3 : ∀ a, a < 0 → ∀ b, b < 0 → a ≠ b → (TJ3 a).2.1 ≠ (TJ3 b).2.1 := by decide +kernel
theorem tyJ3_ok : ∀ k, k < 0 → parseFieldDescriptor (TJ3 k).2.2.1 = some (tyJ3 k) := by decide +kernel
abbrev cJ3_checkIndex_8e157 : ByteArray := prog_19_method_11_code
def yJ3_checkIndex_8e157 : MethodName := ⟨RJ3, "checkIndex", "(IILjava/util/function/BiFunction;)I"⟩
def RL : String := "LetByColoursLaw"
abbrev cL_law : ByteArray := code
def yL_law : MethodName := ⟨RL, "law", "([I)Z"⟩
abbrev vwCl : List vw_C := [(RX0, TX0, 4), (RX1, TX1, 12), (RX2, TX2, 2), (RX3, TX3, 3), (RX4, TX4, 3), (RX5, TX5, 1), (RX6, TX6, 4), (RX7, TX7, 5), (RX8, TX8, 11), (RX9, TX9, 30)]
