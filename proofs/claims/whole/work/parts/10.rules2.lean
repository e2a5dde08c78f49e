/-! rows by place, calls by the number of arguments, loops -/
def bI (b : Bool) : Int32 := if b then nI 1 else nI 0
theorem bI_t : bI true = nI 1 := rfl
theorem bI_f : bI false = nI 0 := rfl
theorem bI_0 {b : Bool} : bI b = 0 ↔ b = false := by cases b <;> decide
theorem inc1 (i : Nat) : nI i + Int32.ofInt 1 = nI (i + 1) := nI_1 i
theorem inc1x (x : Int32) : x + Int32.ofInt 1 = x + nI 1 := rfl
theorem dec1 (i : Nat) : nI (i + 1) + Int32.ofInt (-1) = nI i := pk_m1 i
theorem dec1x (x : Int32) : x + Int32.ofInt (-1) = x + (-1) := rfl
/-- what a method that makes nothing and moves no reference says: an int, or nothing -/
def QI (sh : Sh) (Mr : MR) (Q : Int32 → MM → Prop) : Option AV → Sh → MR → MM → Prop := fun r sh' Mr' M' => sh' = sh ∧ Mr' = Mr ∧ ∃ v, r = some (.int v) ∧ Q v M'
def QV (sh : Sh) (Mr : MR) (Q : MM → Prop) : Option AV → Sh → MR → MM → Prop := fun r sh' Mr' M' => sh' = sh ∧ Mr' = Mr ∧ r = none ∧ Q M'
def CtI (ce : MI) (args : List AV) (sh : Sh) (Mr : MR) (M : MM) (Q : Int32 → MM → Prop) : Prop := Ct ce XTr args sh Mr M 0 0 (QI sh Mr Q)
def CtV (ce : MI) (args : List AV) (sh : Sh) (Mr : MR) (M : MM) (Q : MM → Prop) : Prop := Ct ce XTr args sh Mr M 0 0 (QV sh Mr Q)
def CtP (ce : MI) (args : List AV) (sh : Sh) (Mr : MR) (M : MM) (v : Int32) : Prop := CtI ce args sh Mr M (fun x M' => x = v ∧ M' = M)
abbrev EI (mi : MI) (sh : Sh) (Mr : MR) (Q : Int32 → MM → Prop) (pc : Nat) (ls : List (Option AV)) (st : List AV) (M : MM) : Prop := Ex mi (rmOf mi 0 0) (ZM sh 0 0 (QI sh Mr Q)) XTr 0 0 pc ls st sh Mr M
abbrev EV (mi : MI) (sh : Sh) (Mr : MR) (Q : MM → Prop) (pc : Nat) (ls : List (Option AV)) (st : List AV) (M : MM) : Prop := Ex mi (rmOf mi 0 0) (ZM sh 0 0 (QV sh Mr Q)) XTr 0 0 pc ls st sh Mr M
section EX2
variable {mi : MI} {R : Room} {Z : GE → Nat × Nat → List Frame → Array Value → State → State → Prop} {X : XT} {kc ks pc : Nat} {ls : List (Option AV)} {st : List AV} {sh : Sh} {Mr : MR} {M : MM}
/-- the top's int, rewritten -/
theorem ex_top {x y : Int32} (h : x = y) (k : Ex mi R Z X kc ks pc ls (.int y :: st) sh Mr M) : Ex mi R Z X kc ks pc ls (.int x :: st) sh Mr M := h ▸ k
theorem ex_M {M' : MM} (h : M = M') (k : Ex mi R Z X kc ks pc ls st sh Mr M') : Ex mi R Z X kc ks pc ls st sh Mr M := h ▸ k
theorem ex_ri {Q : Int32 → MM → Prop} {v : Int32} {ty : FieldType} (d : decode mi.2.1 pc = .ok (.ireturn, 1)) (hr : mi.2.2.2.1 = some ty) (hn : narrow ty (.int v) = .int v) (hq : Q v M) : EI mi sh Mr Q pc ls [.int v] M := ex_iret d hr hn rfl ⟨rfl, rfl, v, rfl, hq⟩
theorem ex_rb {Q : Int32 → MM → Prop} {b : Bool} (d : decode mi.2.1 pc = .ok (.ireturn, 1)) (hr : mi.2.2.2.1 = some .boolean) (hq : Q (bI b) M) : EI mi sh Mr Q pc ls [.int (bI b)] M := ex_iret d hr (by cases b <;> rfl) rfl ⟨rfl, rfl, _, rfl, hq⟩
theorem ex_rv {Q : MM → Prop} (d : decode mi.2.1 pc = .ok (.return_, 1)) (hr : mi.2.2.2.1 = none) (hq : Q M) : EV mi sh Mr Q pc ls [] M := ex_vret d hr rfl ⟨rfl, rfl, rfl, hq⟩
theorem ex_ifB_eq {b : Bool} {off : Int} {tgt : Nat} (d : decode mi.2.1 pc = .ok (.ifCond .eq off, 3)) (ht : (pc : Int) + off = (tgt : Int)) (kt : b = false → Ex mi R Z X kc ks tgt ls st sh Mr M) (kf : b = true → Ex mi R Z X kc ks (pc + 3) ls st sh Mr M) : Ex mi R Z X kc ks pc ls (.int (bI b) :: st) sh Mr M :=
  ex_if_eq d ht (fun h => kt (bI_0.mp h)) (fun h => kf (by cases b; exact absurd rfl h; rfl))
theorem ex_ifB_ne {b : Bool} {off : Int} {tgt : Nat} (d : decode mi.2.1 pc = .ok (.ifCond .ne off, 3)) (ht : (pc : Int) + off = (tgt : Int)) (kt : b = true → Ex mi R Z X kc ks tgt ls st sh Mr M) (kf : b = false → Ex mi R Z X kc ks (pc + 3) ls st sh Mr M) : Ex mi R Z X kc ks pc ls (.int (bI b) :: st) sh Mr M :=
  ex_if_ne d ht (fun h => kt (by cases b; exact absurd rfl h; rfl)) (fun h => kf (bI_0.mp h))
/-- a loop that counts up to n -/
theorem ex_for {I : Nat → List (Option AV) → MM → Prop} (n : Nat) (hb : ∀ i ls M, i < n → I i ls M → (∀ ls' M', I (i + 1) ls' M' → Ex mi R Z X kc ks pc ls' st sh Mr M') → Ex mi R Z X kc ks pc ls st sh Mr M) (he : ∀ ls M, I n ls M → Ex mi R Z X kc ks pc ls st sh Mr M) : ∀ i ls M, i ≤ n → I i ls M → Ex mi R Z X kc ks pc ls st sh Mr M := by
  have key : ∀ j i ls M, n - i = j → i ≤ n → I i ls M → Ex mi R Z X kc ks pc ls st sh Mr M := by
    intro j
    induction j with
    | zero =>
      intro i ls M h1 h2 h3
      have e : i = n := by omega
      subst e
      exact he ls M h3
    | succ j ih => intro i ls M h1 h2 h3; exact hb i ls M (by omega) h3 (fun ls' M' h4 => ih (i + 1) ls' M' (by omega) (by omega) h4)
  intro i ls M h1 h2
  exact key (n - i) i ls M rfl h1 h2
/-- a loop that counts down to 0 -/
theorem ex_down {I : Nat → List (Option AV) → MM → Prop} (hb : ∀ i ls M, I (i + 1) ls M → (∀ ls' M', I i ls' M' → Ex mi R Z X kc ks pc ls' st sh Mr M') → Ex mi R Z X kc ks pc ls st sh Mr M) (he : ∀ ls M, I 0 ls M → Ex mi R Z X kc ks pc ls st sh Mr M) : ∀ i ls M, I i ls M → Ex mi R Z X kc ks pc ls st sh Mr M := by
  intro i
  induction i with
  | zero => intro ls M h; exact he ls M h
  | succ i ih => intro ls M h; exact hb i ls M h (fun ls' M' h4 => ih ls' M' h4)
/-- a loop by a measure that falls -/
theorem ex_meas {I : Nat → List (Option AV) → MM → Prop} (hb : ∀ i ls M, I i ls M → (∀ j ls' M', j < i → I j ls' M' → Ex mi R Z X kc ks pc ls' st sh Mr M') → Ex mi R Z X kc ks pc ls st sh Mr M) : ∀ i ls M, I i ls M → Ex mi R Z X kc ks pc ls st sh Mr M := by
  intro i
  induction i using Nat.strongRecOn with
  | _ i ih => intro ls M h; exact hb i ls M h (fun j ls' M' hj h4 => ih j hj ls' M' h4)
theorem ex_il0 {x : Int32} (d : decode mi.2.1 pc = .ok (.iload_n 0, 1)) (k : Ex mi R Z X kc ks (pc + 1) (some (.int x) :: ls) (.int x :: st) sh Mr M) : Ex mi R Z X kc ks pc (some (.int x) :: ls) st sh Mr M := ex_iload_gn d rfl k
theorem ex_is0 {o : Option AV} {x : Int32} (d : decode mi.2.1 pc = .ok (.istore_n 0, 1)) (hn : 0 < mi.2.2.1) (k : Ex mi R Z X kc ks (pc + 1) (some (.int x) :: ls) st sh Mr M) : Ex mi R Z X kc ks pc (o :: ls) (.int x :: st) sh Mr M := ex_istore_gn d hn rfl k
theorem ex_al0 {x : Nat} (d : decode mi.2.1 pc = .ok (.aload_n 0, 1)) (k : Ex mi R Z X kc ks (pc + 1) (some (.ref x) :: ls) (.ref x :: st) sh Mr M) : Ex mi R Z X kc ks pc (some (.ref x) :: ls) st sh Mr M := ex_aload_gn d rfl k
theorem ex_as0 {o : Option AV} {x : Nat} (d : decode mi.2.1 pc = .ok (.astore_n 0, 1)) (hn : 0 < mi.2.2.1) (k : Ex mi R Z X kc ks (pc + 1) (some (.ref x) :: ls) st sh Mr M) : Ex mi R Z X kc ks pc (o :: ls) (.ref x :: st) sh Mr M := ex_astore_gn d hn rfl k
theorem ex_ll0 {x : Int64} (d : decode mi.2.1 pc = .ok (.lload_n 0, 1)) (k : Ex mi R Z X kc ks (pc + 1) (some (.long x) :: ls) (.long x :: st) sh Mr M) : Ex mi R Z X kc ks pc (some (.long x) :: ls) st sh Mr M := ex_lload_gn d rfl k
theorem ex_ls0 {o o2 : Option AV} {x : Int64} (d : decode mi.2.1 pc = .ok (.lstore_n 0, 1)) (hn : 0 + 1 < mi.2.2.1) (k : Ex mi R Z X kc ks (pc + 1) (some (.long x) :: none :: ls) st sh Mr M) : Ex mi R Z X kc ks pc (o :: o2 :: ls) (.long x :: st) sh Mr M := ex_lstore_gn d hn rfl k
theorem ex_inc0 {n : Int} {x v : Int32} (d : decode mi.2.1 pc = .ok (.iinc 0 n, 3)) (hn : 0 < mi.2.2.1) (hv : x + Int32.ofInt n = v) (k : Ex mi R Z X kc ks (pc + 3) (some (.int v) :: ls) st sh Mr M) : Ex mi R Z X kc ks pc (some (.int x) :: ls) st sh Mr M := by
  subst hv
  exact ex_iinc_g d hn rfl rfl k
theorem ex_il1 {a0 : Option AV} {x : Int32} (d : decode mi.2.1 pc = .ok (.iload_n 1, 1)) (k : Ex mi R Z X kc ks (pc + 1) (a0 :: some (.int x) :: ls) (.int x :: st) sh Mr M) : Ex mi R Z X kc ks pc (a0 :: some (.int x) :: ls) st sh Mr M := ex_iload_gn d rfl k
theorem ex_is1 {a0 : Option AV} {o : Option AV} {x : Int32} (d : decode mi.2.1 pc = .ok (.istore_n 1, 1)) (hn : 1 < mi.2.2.1) (hb : nl a0 = true) (k : Ex mi R Z X kc ks (pc + 1) (a0 :: some (.int x) :: ls) st sh Mr M) : Ex mi R Z X kc ks pc (a0 :: o :: ls) (.int x :: st) sh Mr M := ex_istore_gn d hn hb k
theorem ex_al1 {a0 : Option AV} {x : Nat} (d : decode mi.2.1 pc = .ok (.aload_n 1, 1)) (k : Ex mi R Z X kc ks (pc + 1) (a0 :: some (.ref x) :: ls) (.ref x :: st) sh Mr M) : Ex mi R Z X kc ks pc (a0 :: some (.ref x) :: ls) st sh Mr M := ex_aload_gn d rfl k
theorem ex_as1 {a0 : Option AV} {o : Option AV} {x : Nat} (d : decode mi.2.1 pc = .ok (.astore_n 1, 1)) (hn : 1 < mi.2.2.1) (hb : nl a0 = true) (k : Ex mi R Z X kc ks (pc + 1) (a0 :: some (.ref x) :: ls) st sh Mr M) : Ex mi R Z X kc ks pc (a0 :: o :: ls) (.ref x :: st) sh Mr M := ex_astore_gn d hn hb k
theorem ex_ll1 {a0 : Option AV} {x : Int64} (d : decode mi.2.1 pc = .ok (.lload_n 1, 1)) (k : Ex mi R Z X kc ks (pc + 1) (a0 :: some (.long x) :: ls) (.long x :: st) sh Mr M) : Ex mi R Z X kc ks pc (a0 :: some (.long x) :: ls) st sh Mr M := ex_lload_gn d rfl k
theorem ex_ls1 {a0 : Option AV} {o o2 : Option AV} {x : Int64} (d : decode mi.2.1 pc = .ok (.lstore_n 1, 1)) (hn : 1 + 1 < mi.2.2.1) (hb : nl a0 = true) (k : Ex mi R Z X kc ks (pc + 1) (a0 :: some (.long x) :: none :: ls) st sh Mr M) : Ex mi R Z X kc ks pc (a0 :: o :: o2 :: ls) (.long x :: st) sh Mr M := ex_lstore_gn d hn hb k
theorem ex_inc1 {a0 : Option AV} {n : Int} {x v : Int32} (d : decode mi.2.1 pc = .ok (.iinc 1 n, 3)) (hn : 1 < mi.2.2.1) (hb : nl a0 = true) (hv : x + Int32.ofInt n = v) (k : Ex mi R Z X kc ks (pc + 3) (a0 :: some (.int v) :: ls) st sh Mr M) : Ex mi R Z X kc ks pc (a0 :: some (.int x) :: ls) st sh Mr M := by
  subst hv
  exact ex_iinc_g d hn hb rfl k
theorem ex_il2 {a0 a1 : Option AV} {x : Int32} (d : decode mi.2.1 pc = .ok (.iload_n 2, 1)) (k : Ex mi R Z X kc ks (pc + 1) (a0 :: a1 :: some (.int x) :: ls) (.int x :: st) sh Mr M) : Ex mi R Z X kc ks pc (a0 :: a1 :: some (.int x) :: ls) st sh Mr M := ex_iload_gn d rfl k
theorem ex_is2 {a0 a1 : Option AV} {o : Option AV} {x : Int32} (d : decode mi.2.1 pc = .ok (.istore_n 2, 1)) (hn : 2 < mi.2.2.1) (hb : nl a1 = true) (k : Ex mi R Z X kc ks (pc + 1) (a0 :: a1 :: some (.int x) :: ls) st sh Mr M) : Ex mi R Z X kc ks pc (a0 :: a1 :: o :: ls) (.int x :: st) sh Mr M := ex_istore_gn d hn hb k
theorem ex_al2 {a0 a1 : Option AV} {x : Nat} (d : decode mi.2.1 pc = .ok (.aload_n 2, 1)) (k : Ex mi R Z X kc ks (pc + 1) (a0 :: a1 :: some (.ref x) :: ls) (.ref x :: st) sh Mr M) : Ex mi R Z X kc ks pc (a0 :: a1 :: some (.ref x) :: ls) st sh Mr M := ex_aload_gn d rfl k
theorem ex_as2 {a0 a1 : Option AV} {o : Option AV} {x : Nat} (d : decode mi.2.1 pc = .ok (.astore_n 2, 1)) (hn : 2 < mi.2.2.1) (hb : nl a1 = true) (k : Ex mi R Z X kc ks (pc + 1) (a0 :: a1 :: some (.ref x) :: ls) st sh Mr M) : Ex mi R Z X kc ks pc (a0 :: a1 :: o :: ls) (.ref x :: st) sh Mr M := ex_astore_gn d hn hb k
theorem ex_ll2 {a0 a1 : Option AV} {x : Int64} (d : decode mi.2.1 pc = .ok (.lload_n 2, 1)) (k : Ex mi R Z X kc ks (pc + 1) (a0 :: a1 :: some (.long x) :: ls) (.long x :: st) sh Mr M) : Ex mi R Z X kc ks pc (a0 :: a1 :: some (.long x) :: ls) st sh Mr M := ex_lload_gn d rfl k
theorem ex_ls2 {a0 a1 : Option AV} {o o2 : Option AV} {x : Int64} (d : decode mi.2.1 pc = .ok (.lstore_n 2, 1)) (hn : 2 + 1 < mi.2.2.1) (hb : nl a1 = true) (k : Ex mi R Z X kc ks (pc + 1) (a0 :: a1 :: some (.long x) :: none :: ls) st sh Mr M) : Ex mi R Z X kc ks pc (a0 :: a1 :: o :: o2 :: ls) (.long x :: st) sh Mr M := ex_lstore_gn d hn hb k
theorem ex_inc2 {a0 a1 : Option AV} {n : Int} {x v : Int32} (d : decode mi.2.1 pc = .ok (.iinc 2 n, 3)) (hn : 2 < mi.2.2.1) (hb : nl a1 = true) (hv : x + Int32.ofInt n = v) (k : Ex mi R Z X kc ks (pc + 3) (a0 :: a1 :: some (.int v) :: ls) st sh Mr M) : Ex mi R Z X kc ks pc (a0 :: a1 :: some (.int x) :: ls) st sh Mr M := by
  subst hv
  exact ex_iinc_g d hn hb rfl k
theorem ex_il3 {a0 a1 a2 : Option AV} {x : Int32} (d : decode mi.2.1 pc = .ok (.iload_n 3, 1)) (k : Ex mi R Z X kc ks (pc + 1) (a0 :: a1 :: a2 :: some (.int x) :: ls) (.int x :: st) sh Mr M) : Ex mi R Z X kc ks pc (a0 :: a1 :: a2 :: some (.int x) :: ls) st sh Mr M := ex_iload_gn d rfl k
theorem ex_is3 {a0 a1 a2 : Option AV} {o : Option AV} {x : Int32} (d : decode mi.2.1 pc = .ok (.istore_n 3, 1)) (hn : 3 < mi.2.2.1) (hb : nl a2 = true) (k : Ex mi R Z X kc ks (pc + 1) (a0 :: a1 :: a2 :: some (.int x) :: ls) st sh Mr M) : Ex mi R Z X kc ks pc (a0 :: a1 :: a2 :: o :: ls) (.int x :: st) sh Mr M := ex_istore_gn d hn hb k
theorem ex_al3 {a0 a1 a2 : Option AV} {x : Nat} (d : decode mi.2.1 pc = .ok (.aload_n 3, 1)) (k : Ex mi R Z X kc ks (pc + 1) (a0 :: a1 :: a2 :: some (.ref x) :: ls) (.ref x :: st) sh Mr M) : Ex mi R Z X kc ks pc (a0 :: a1 :: a2 :: some (.ref x) :: ls) st sh Mr M := ex_aload_gn d rfl k
theorem ex_as3 {a0 a1 a2 : Option AV} {o : Option AV} {x : Nat} (d : decode mi.2.1 pc = .ok (.astore_n 3, 1)) (hn : 3 < mi.2.2.1) (hb : nl a2 = true) (k : Ex mi R Z X kc ks (pc + 1) (a0 :: a1 :: a2 :: some (.ref x) :: ls) st sh Mr M) : Ex mi R Z X kc ks pc (a0 :: a1 :: a2 :: o :: ls) (.ref x :: st) sh Mr M := ex_astore_gn d hn hb k
theorem ex_ll3 {a0 a1 a2 : Option AV} {x : Int64} (d : decode mi.2.1 pc = .ok (.lload_n 3, 1)) (k : Ex mi R Z X kc ks (pc + 1) (a0 :: a1 :: a2 :: some (.long x) :: ls) (.long x :: st) sh Mr M) : Ex mi R Z X kc ks pc (a0 :: a1 :: a2 :: some (.long x) :: ls) st sh Mr M := ex_lload_gn d rfl k
theorem ex_ls3 {a0 a1 a2 : Option AV} {o o2 : Option AV} {x : Int64} (d : decode mi.2.1 pc = .ok (.lstore_n 3, 1)) (hn : 3 + 1 < mi.2.2.1) (hb : nl a2 = true) (k : Ex mi R Z X kc ks (pc + 1) (a0 :: a1 :: a2 :: some (.long x) :: none :: ls) st sh Mr M) : Ex mi R Z X kc ks pc (a0 :: a1 :: a2 :: o :: o2 :: ls) (.long x :: st) sh Mr M := ex_lstore_gn d hn hb k
theorem ex_inc3 {a0 a1 a2 : Option AV} {n : Int} {x v : Int32} (d : decode mi.2.1 pc = .ok (.iinc 3 n, 3)) (hn : 3 < mi.2.2.1) (hb : nl a2 = true) (hv : x + Int32.ofInt n = v) (k : Ex mi R Z X kc ks (pc + 3) (a0 :: a1 :: a2 :: some (.int v) :: ls) st sh Mr M) : Ex mi R Z X kc ks pc (a0 :: a1 :: a2 :: some (.int x) :: ls) st sh Mr M := by
  subst hv
  exact ex_iinc_g d hn hb rfl k
theorem ex_il4 {a0 a1 a2 a3 : Option AV} {x : Int32} (d : decode mi.2.1 pc = .ok (.iload 4, 2)) (k : Ex mi R Z X kc ks (pc + 2) (a0 :: a1 :: a2 :: a3 :: some (.int x) :: ls) (.int x :: st) sh Mr M) : Ex mi R Z X kc ks pc (a0 :: a1 :: a2 :: a3 :: some (.int x) :: ls) st sh Mr M := ex_iload_g d rfl k
theorem ex_is4 {a0 a1 a2 a3 : Option AV} {o : Option AV} {x : Int32} (d : decode mi.2.1 pc = .ok (.istore 4, 2)) (hn : 4 < mi.2.2.1) (hb : nl a3 = true) (k : Ex mi R Z X kc ks (pc + 2) (a0 :: a1 :: a2 :: a3 :: some (.int x) :: ls) st sh Mr M) : Ex mi R Z X kc ks pc (a0 :: a1 :: a2 :: a3 :: o :: ls) (.int x :: st) sh Mr M := ex_istore_g d hn hb k
theorem ex_al4 {a0 a1 a2 a3 : Option AV} {x : Nat} (d : decode mi.2.1 pc = .ok (.aload 4, 2)) (k : Ex mi R Z X kc ks (pc + 2) (a0 :: a1 :: a2 :: a3 :: some (.ref x) :: ls) (.ref x :: st) sh Mr M) : Ex mi R Z X kc ks pc (a0 :: a1 :: a2 :: a3 :: some (.ref x) :: ls) st sh Mr M := ex_aload_g d rfl k
theorem ex_as4 {a0 a1 a2 a3 : Option AV} {o : Option AV} {x : Nat} (d : decode mi.2.1 pc = .ok (.astore 4, 2)) (hn : 4 < mi.2.2.1) (hb : nl a3 = true) (k : Ex mi R Z X kc ks (pc + 2) (a0 :: a1 :: a2 :: a3 :: some (.ref x) :: ls) st sh Mr M) : Ex mi R Z X kc ks pc (a0 :: a1 :: a2 :: a3 :: o :: ls) (.ref x :: st) sh Mr M := ex_astore_g d hn hb k
theorem ex_ll4 {a0 a1 a2 a3 : Option AV} {x : Int64} (d : decode mi.2.1 pc = .ok (.lload 4, 2)) (k : Ex mi R Z X kc ks (pc + 2) (a0 :: a1 :: a2 :: a3 :: some (.long x) :: ls) (.long x :: st) sh Mr M) : Ex mi R Z X kc ks pc (a0 :: a1 :: a2 :: a3 :: some (.long x) :: ls) st sh Mr M := ex_lload_g d rfl k
theorem ex_ls4 {a0 a1 a2 a3 : Option AV} {o o2 : Option AV} {x : Int64} (d : decode mi.2.1 pc = .ok (.lstore 4, 2)) (hn : 4 + 1 < mi.2.2.1) (hb : nl a3 = true) (k : Ex mi R Z X kc ks (pc + 2) (a0 :: a1 :: a2 :: a3 :: some (.long x) :: none :: ls) st sh Mr M) : Ex mi R Z X kc ks pc (a0 :: a1 :: a2 :: a3 :: o :: o2 :: ls) (.long x :: st) sh Mr M := ex_lstore_g d hn hb k
theorem ex_inc4 {a0 a1 a2 a3 : Option AV} {n : Int} {x v : Int32} (d : decode mi.2.1 pc = .ok (.iinc 4 n, 3)) (hn : 4 < mi.2.2.1) (hb : nl a3 = true) (hv : x + Int32.ofInt n = v) (k : Ex mi R Z X kc ks (pc + 3) (a0 :: a1 :: a2 :: a3 :: some (.int v) :: ls) st sh Mr M) : Ex mi R Z X kc ks pc (a0 :: a1 :: a2 :: a3 :: some (.int x) :: ls) st sh Mr M := by
  subst hv
  exact ex_iinc_g d hn hb rfl k
theorem ex_il5 {a0 a1 a2 a3 a4 : Option AV} {x : Int32} (d : decode mi.2.1 pc = .ok (.iload 5, 2)) (k : Ex mi R Z X kc ks (pc + 2) (a0 :: a1 :: a2 :: a3 :: a4 :: some (.int x) :: ls) (.int x :: st) sh Mr M) : Ex mi R Z X kc ks pc (a0 :: a1 :: a2 :: a3 :: a4 :: some (.int x) :: ls) st sh Mr M := ex_iload_g d rfl k
theorem ex_is5 {a0 a1 a2 a3 a4 : Option AV} {o : Option AV} {x : Int32} (d : decode mi.2.1 pc = .ok (.istore 5, 2)) (hn : 5 < mi.2.2.1) (hb : nl a4 = true) (k : Ex mi R Z X kc ks (pc + 2) (a0 :: a1 :: a2 :: a3 :: a4 :: some (.int x) :: ls) st sh Mr M) : Ex mi R Z X kc ks pc (a0 :: a1 :: a2 :: a3 :: a4 :: o :: ls) (.int x :: st) sh Mr M := ex_istore_g d hn hb k
theorem ex_al5 {a0 a1 a2 a3 a4 : Option AV} {x : Nat} (d : decode mi.2.1 pc = .ok (.aload 5, 2)) (k : Ex mi R Z X kc ks (pc + 2) (a0 :: a1 :: a2 :: a3 :: a4 :: some (.ref x) :: ls) (.ref x :: st) sh Mr M) : Ex mi R Z X kc ks pc (a0 :: a1 :: a2 :: a3 :: a4 :: some (.ref x) :: ls) st sh Mr M := ex_aload_g d rfl k
theorem ex_as5 {a0 a1 a2 a3 a4 : Option AV} {o : Option AV} {x : Nat} (d : decode mi.2.1 pc = .ok (.astore 5, 2)) (hn : 5 < mi.2.2.1) (hb : nl a4 = true) (k : Ex mi R Z X kc ks (pc + 2) (a0 :: a1 :: a2 :: a3 :: a4 :: some (.ref x) :: ls) st sh Mr M) : Ex mi R Z X kc ks pc (a0 :: a1 :: a2 :: a3 :: a4 :: o :: ls) (.ref x :: st) sh Mr M := ex_astore_g d hn hb k
theorem ex_ll5 {a0 a1 a2 a3 a4 : Option AV} {x : Int64} (d : decode mi.2.1 pc = .ok (.lload 5, 2)) (k : Ex mi R Z X kc ks (pc + 2) (a0 :: a1 :: a2 :: a3 :: a4 :: some (.long x) :: ls) (.long x :: st) sh Mr M) : Ex mi R Z X kc ks pc (a0 :: a1 :: a2 :: a3 :: a4 :: some (.long x) :: ls) st sh Mr M := ex_lload_g d rfl k
theorem ex_ls5 {a0 a1 a2 a3 a4 : Option AV} {o o2 : Option AV} {x : Int64} (d : decode mi.2.1 pc = .ok (.lstore 5, 2)) (hn : 5 + 1 < mi.2.2.1) (hb : nl a4 = true) (k : Ex mi R Z X kc ks (pc + 2) (a0 :: a1 :: a2 :: a3 :: a4 :: some (.long x) :: none :: ls) st sh Mr M) : Ex mi R Z X kc ks pc (a0 :: a1 :: a2 :: a3 :: a4 :: o :: o2 :: ls) (.long x :: st) sh Mr M := ex_lstore_g d hn hb k
theorem ex_inc5 {a0 a1 a2 a3 a4 : Option AV} {n : Int} {x v : Int32} (d : decode mi.2.1 pc = .ok (.iinc 5 n, 3)) (hn : 5 < mi.2.2.1) (hb : nl a4 = true) (hv : x + Int32.ofInt n = v) (k : Ex mi R Z X kc ks (pc + 3) (a0 :: a1 :: a2 :: a3 :: a4 :: some (.int v) :: ls) st sh Mr M) : Ex mi R Z X kc ks pc (a0 :: a1 :: a2 :: a3 :: a4 :: some (.int x) :: ls) st sh Mr M := by
  subst hv
  exact ex_iinc_g d hn hb rfl k
theorem ex_il6 {a0 a1 a2 a3 a4 a5 : Option AV} {x : Int32} (d : decode mi.2.1 pc = .ok (.iload 6, 2)) (k : Ex mi R Z X kc ks (pc + 2) (a0 :: a1 :: a2 :: a3 :: a4 :: a5 :: some (.int x) :: ls) (.int x :: st) sh Mr M) : Ex mi R Z X kc ks pc (a0 :: a1 :: a2 :: a3 :: a4 :: a5 :: some (.int x) :: ls) st sh Mr M := ex_iload_g d rfl k
theorem ex_is6 {a0 a1 a2 a3 a4 a5 : Option AV} {o : Option AV} {x : Int32} (d : decode mi.2.1 pc = .ok (.istore 6, 2)) (hn : 6 < mi.2.2.1) (hb : nl a5 = true) (k : Ex mi R Z X kc ks (pc + 2) (a0 :: a1 :: a2 :: a3 :: a4 :: a5 :: some (.int x) :: ls) st sh Mr M) : Ex mi R Z X kc ks pc (a0 :: a1 :: a2 :: a3 :: a4 :: a5 :: o :: ls) (.int x :: st) sh Mr M := ex_istore_g d hn hb k
theorem ex_al6 {a0 a1 a2 a3 a4 a5 : Option AV} {x : Nat} (d : decode mi.2.1 pc = .ok (.aload 6, 2)) (k : Ex mi R Z X kc ks (pc + 2) (a0 :: a1 :: a2 :: a3 :: a4 :: a5 :: some (.ref x) :: ls) (.ref x :: st) sh Mr M) : Ex mi R Z X kc ks pc (a0 :: a1 :: a2 :: a3 :: a4 :: a5 :: some (.ref x) :: ls) st sh Mr M := ex_aload_g d rfl k
theorem ex_as6 {a0 a1 a2 a3 a4 a5 : Option AV} {o : Option AV} {x : Nat} (d : decode mi.2.1 pc = .ok (.astore 6, 2)) (hn : 6 < mi.2.2.1) (hb : nl a5 = true) (k : Ex mi R Z X kc ks (pc + 2) (a0 :: a1 :: a2 :: a3 :: a4 :: a5 :: some (.ref x) :: ls) st sh Mr M) : Ex mi R Z X kc ks pc (a0 :: a1 :: a2 :: a3 :: a4 :: a5 :: o :: ls) (.ref x :: st) sh Mr M := ex_astore_g d hn hb k
theorem ex_ll6 {a0 a1 a2 a3 a4 a5 : Option AV} {x : Int64} (d : decode mi.2.1 pc = .ok (.lload 6, 2)) (k : Ex mi R Z X kc ks (pc + 2) (a0 :: a1 :: a2 :: a3 :: a4 :: a5 :: some (.long x) :: ls) (.long x :: st) sh Mr M) : Ex mi R Z X kc ks pc (a0 :: a1 :: a2 :: a3 :: a4 :: a5 :: some (.long x) :: ls) st sh Mr M := ex_lload_g d rfl k
theorem ex_ls6 {a0 a1 a2 a3 a4 a5 : Option AV} {o o2 : Option AV} {x : Int64} (d : decode mi.2.1 pc = .ok (.lstore 6, 2)) (hn : 6 + 1 < mi.2.2.1) (hb : nl a5 = true) (k : Ex mi R Z X kc ks (pc + 2) (a0 :: a1 :: a2 :: a3 :: a4 :: a5 :: some (.long x) :: none :: ls) st sh Mr M) : Ex mi R Z X kc ks pc (a0 :: a1 :: a2 :: a3 :: a4 :: a5 :: o :: o2 :: ls) (.long x :: st) sh Mr M := ex_lstore_g d hn hb k
theorem ex_inc6 {a0 a1 a2 a3 a4 a5 : Option AV} {n : Int} {x v : Int32} (d : decode mi.2.1 pc = .ok (.iinc 6 n, 3)) (hn : 6 < mi.2.2.1) (hb : nl a5 = true) (hv : x + Int32.ofInt n = v) (k : Ex mi R Z X kc ks (pc + 3) (a0 :: a1 :: a2 :: a3 :: a4 :: a5 :: some (.int v) :: ls) st sh Mr M) : Ex mi R Z X kc ks pc (a0 :: a1 :: a2 :: a3 :: a4 :: a5 :: some (.int x) :: ls) st sh Mr M := by
  subst hv
  exact ex_iinc_g d hn hb rfl k
theorem ex_il7 {a0 a1 a2 a3 a4 a5 a6 : Option AV} {x : Int32} (d : decode mi.2.1 pc = .ok (.iload 7, 2)) (k : Ex mi R Z X kc ks (pc + 2) (a0 :: a1 :: a2 :: a3 :: a4 :: a5 :: a6 :: some (.int x) :: ls) (.int x :: st) sh Mr M) : Ex mi R Z X kc ks pc (a0 :: a1 :: a2 :: a3 :: a4 :: a5 :: a6 :: some (.int x) :: ls) st sh Mr M := ex_iload_g d rfl k
theorem ex_is7 {a0 a1 a2 a3 a4 a5 a6 : Option AV} {o : Option AV} {x : Int32} (d : decode mi.2.1 pc = .ok (.istore 7, 2)) (hn : 7 < mi.2.2.1) (hb : nl a6 = true) (k : Ex mi R Z X kc ks (pc + 2) (a0 :: a1 :: a2 :: a3 :: a4 :: a5 :: a6 :: some (.int x) :: ls) st sh Mr M) : Ex mi R Z X kc ks pc (a0 :: a1 :: a2 :: a3 :: a4 :: a5 :: a6 :: o :: ls) (.int x :: st) sh Mr M := ex_istore_g d hn hb k
theorem ex_al7 {a0 a1 a2 a3 a4 a5 a6 : Option AV} {x : Nat} (d : decode mi.2.1 pc = .ok (.aload 7, 2)) (k : Ex mi R Z X kc ks (pc + 2) (a0 :: a1 :: a2 :: a3 :: a4 :: a5 :: a6 :: some (.ref x) :: ls) (.ref x :: st) sh Mr M) : Ex mi R Z X kc ks pc (a0 :: a1 :: a2 :: a3 :: a4 :: a5 :: a6 :: some (.ref x) :: ls) st sh Mr M := ex_aload_g d rfl k
theorem ex_as7 {a0 a1 a2 a3 a4 a5 a6 : Option AV} {o : Option AV} {x : Nat} (d : decode mi.2.1 pc = .ok (.astore 7, 2)) (hn : 7 < mi.2.2.1) (hb : nl a6 = true) (k : Ex mi R Z X kc ks (pc + 2) (a0 :: a1 :: a2 :: a3 :: a4 :: a5 :: a6 :: some (.ref x) :: ls) st sh Mr M) : Ex mi R Z X kc ks pc (a0 :: a1 :: a2 :: a3 :: a4 :: a5 :: a6 :: o :: ls) (.ref x :: st) sh Mr M := ex_astore_g d hn hb k
theorem ex_ll7 {a0 a1 a2 a3 a4 a5 a6 : Option AV} {x : Int64} (d : decode mi.2.1 pc = .ok (.lload 7, 2)) (k : Ex mi R Z X kc ks (pc + 2) (a0 :: a1 :: a2 :: a3 :: a4 :: a5 :: a6 :: some (.long x) :: ls) (.long x :: st) sh Mr M) : Ex mi R Z X kc ks pc (a0 :: a1 :: a2 :: a3 :: a4 :: a5 :: a6 :: some (.long x) :: ls) st sh Mr M := ex_lload_g d rfl k
theorem ex_ls7 {a0 a1 a2 a3 a4 a5 a6 : Option AV} {o o2 : Option AV} {x : Int64} (d : decode mi.2.1 pc = .ok (.lstore 7, 2)) (hn : 7 + 1 < mi.2.2.1) (hb : nl a6 = true) (k : Ex mi R Z X kc ks (pc + 2) (a0 :: a1 :: a2 :: a3 :: a4 :: a5 :: a6 :: some (.long x) :: none :: ls) st sh Mr M) : Ex mi R Z X kc ks pc (a0 :: a1 :: a2 :: a3 :: a4 :: a5 :: a6 :: o :: o2 :: ls) (.long x :: st) sh Mr M := ex_lstore_g d hn hb k
theorem ex_inc7 {a0 a1 a2 a3 a4 a5 a6 : Option AV} {n : Int} {x v : Int32} (d : decode mi.2.1 pc = .ok (.iinc 7 n, 3)) (hn : 7 < mi.2.2.1) (hb : nl a6 = true) (hv : x + Int32.ofInt n = v) (k : Ex mi R Z X kc ks (pc + 3) (a0 :: a1 :: a2 :: a3 :: a4 :: a5 :: a6 :: some (.int v) :: ls) st sh Mr M) : Ex mi R Z X kc ks pc (a0 :: a1 :: a2 :: a3 :: a4 :: a5 :: a6 :: some (.int x) :: ls) st sh Mr M := by
  subst hv
  exact ex_iinc_g d hn hb rfl k
theorem ex_il8 {a0 a1 a2 a3 a4 a5 a6 a7 : Option AV} {x : Int32} (d : decode mi.2.1 pc = .ok (.iload 8, 2)) (k : Ex mi R Z X kc ks (pc + 2) (a0 :: a1 :: a2 :: a3 :: a4 :: a5 :: a6 :: a7 :: some (.int x) :: ls) (.int x :: st) sh Mr M) : Ex mi R Z X kc ks pc (a0 :: a1 :: a2 :: a3 :: a4 :: a5 :: a6 :: a7 :: some (.int x) :: ls) st sh Mr M := ex_iload_g d rfl k
theorem ex_is8 {a0 a1 a2 a3 a4 a5 a6 a7 : Option AV} {o : Option AV} {x : Int32} (d : decode mi.2.1 pc = .ok (.istore 8, 2)) (hn : 8 < mi.2.2.1) (hb : nl a7 = true) (k : Ex mi R Z X kc ks (pc + 2) (a0 :: a1 :: a2 :: a3 :: a4 :: a5 :: a6 :: a7 :: some (.int x) :: ls) st sh Mr M) : Ex mi R Z X kc ks pc (a0 :: a1 :: a2 :: a3 :: a4 :: a5 :: a6 :: a7 :: o :: ls) (.int x :: st) sh Mr M := ex_istore_g d hn hb k
theorem ex_al8 {a0 a1 a2 a3 a4 a5 a6 a7 : Option AV} {x : Nat} (d : decode mi.2.1 pc = .ok (.aload 8, 2)) (k : Ex mi R Z X kc ks (pc + 2) (a0 :: a1 :: a2 :: a3 :: a4 :: a5 :: a6 :: a7 :: some (.ref x) :: ls) (.ref x :: st) sh Mr M) : Ex mi R Z X kc ks pc (a0 :: a1 :: a2 :: a3 :: a4 :: a5 :: a6 :: a7 :: some (.ref x) :: ls) st sh Mr M := ex_aload_g d rfl k
theorem ex_as8 {a0 a1 a2 a3 a4 a5 a6 a7 : Option AV} {o : Option AV} {x : Nat} (d : decode mi.2.1 pc = .ok (.astore 8, 2)) (hn : 8 < mi.2.2.1) (hb : nl a7 = true) (k : Ex mi R Z X kc ks (pc + 2) (a0 :: a1 :: a2 :: a3 :: a4 :: a5 :: a6 :: a7 :: some (.ref x) :: ls) st sh Mr M) : Ex mi R Z X kc ks pc (a0 :: a1 :: a2 :: a3 :: a4 :: a5 :: a6 :: a7 :: o :: ls) (.ref x :: st) sh Mr M := ex_astore_g d hn hb k
theorem ex_ll8 {a0 a1 a2 a3 a4 a5 a6 a7 : Option AV} {x : Int64} (d : decode mi.2.1 pc = .ok (.lload 8, 2)) (k : Ex mi R Z X kc ks (pc + 2) (a0 :: a1 :: a2 :: a3 :: a4 :: a5 :: a6 :: a7 :: some (.long x) :: ls) (.long x :: st) sh Mr M) : Ex mi R Z X kc ks pc (a0 :: a1 :: a2 :: a3 :: a4 :: a5 :: a6 :: a7 :: some (.long x) :: ls) st sh Mr M := ex_lload_g d rfl k
theorem ex_ls8 {a0 a1 a2 a3 a4 a5 a6 a7 : Option AV} {o o2 : Option AV} {x : Int64} (d : decode mi.2.1 pc = .ok (.lstore 8, 2)) (hn : 8 + 1 < mi.2.2.1) (hb : nl a7 = true) (k : Ex mi R Z X kc ks (pc + 2) (a0 :: a1 :: a2 :: a3 :: a4 :: a5 :: a6 :: a7 :: some (.long x) :: none :: ls) st sh Mr M) : Ex mi R Z X kc ks pc (a0 :: a1 :: a2 :: a3 :: a4 :: a5 :: a6 :: a7 :: o :: o2 :: ls) (.long x :: st) sh Mr M := ex_lstore_g d hn hb k
theorem ex_inc8 {a0 a1 a2 a3 a4 a5 a6 a7 : Option AV} {n : Int} {x v : Int32} (d : decode mi.2.1 pc = .ok (.iinc 8 n, 3)) (hn : 8 < mi.2.2.1) (hb : nl a7 = true) (hv : x + Int32.ofInt n = v) (k : Ex mi R Z X kc ks (pc + 3) (a0 :: a1 :: a2 :: a3 :: a4 :: a5 :: a6 :: a7 :: some (.int v) :: ls) st sh Mr M) : Ex mi R Z X kc ks pc (a0 :: a1 :: a2 :: a3 :: a4 :: a5 :: a6 :: a7 :: some (.int x) :: ls) st sh Mr M := by
  subst hv
  exact ex_iinc_g d hn hb rfl k
theorem ex_il9 {a0 a1 a2 a3 a4 a5 a6 a7 a8 : Option AV} {x : Int32} (d : decode mi.2.1 pc = .ok (.iload 9, 2)) (k : Ex mi R Z X kc ks (pc + 2) (a0 :: a1 :: a2 :: a3 :: a4 :: a5 :: a6 :: a7 :: a8 :: some (.int x) :: ls) (.int x :: st) sh Mr M) : Ex mi R Z X kc ks pc (a0 :: a1 :: a2 :: a3 :: a4 :: a5 :: a6 :: a7 :: a8 :: some (.int x) :: ls) st sh Mr M := ex_iload_g d rfl k
theorem ex_is9 {a0 a1 a2 a3 a4 a5 a6 a7 a8 : Option AV} {o : Option AV} {x : Int32} (d : decode mi.2.1 pc = .ok (.istore 9, 2)) (hn : 9 < mi.2.2.1) (hb : nl a8 = true) (k : Ex mi R Z X kc ks (pc + 2) (a0 :: a1 :: a2 :: a3 :: a4 :: a5 :: a6 :: a7 :: a8 :: some (.int x) :: ls) st sh Mr M) : Ex mi R Z X kc ks pc (a0 :: a1 :: a2 :: a3 :: a4 :: a5 :: a6 :: a7 :: a8 :: o :: ls) (.int x :: st) sh Mr M := ex_istore_g d hn hb k
theorem ex_al9 {a0 a1 a2 a3 a4 a5 a6 a7 a8 : Option AV} {x : Nat} (d : decode mi.2.1 pc = .ok (.aload 9, 2)) (k : Ex mi R Z X kc ks (pc + 2) (a0 :: a1 :: a2 :: a3 :: a4 :: a5 :: a6 :: a7 :: a8 :: some (.ref x) :: ls) (.ref x :: st) sh Mr M) : Ex mi R Z X kc ks pc (a0 :: a1 :: a2 :: a3 :: a4 :: a5 :: a6 :: a7 :: a8 :: some (.ref x) :: ls) st sh Mr M := ex_aload_g d rfl k
theorem ex_as9 {a0 a1 a2 a3 a4 a5 a6 a7 a8 : Option AV} {o : Option AV} {x : Nat} (d : decode mi.2.1 pc = .ok (.astore 9, 2)) (hn : 9 < mi.2.2.1) (hb : nl a8 = true) (k : Ex mi R Z X kc ks (pc + 2) (a0 :: a1 :: a2 :: a3 :: a4 :: a5 :: a6 :: a7 :: a8 :: some (.ref x) :: ls) st sh Mr M) : Ex mi R Z X kc ks pc (a0 :: a1 :: a2 :: a3 :: a4 :: a5 :: a6 :: a7 :: a8 :: o :: ls) (.ref x :: st) sh Mr M := ex_astore_g d hn hb k
theorem ex_ll9 {a0 a1 a2 a3 a4 a5 a6 a7 a8 : Option AV} {x : Int64} (d : decode mi.2.1 pc = .ok (.lload 9, 2)) (k : Ex mi R Z X kc ks (pc + 2) (a0 :: a1 :: a2 :: a3 :: a4 :: a5 :: a6 :: a7 :: a8 :: some (.long x) :: ls) (.long x :: st) sh Mr M) : Ex mi R Z X kc ks pc (a0 :: a1 :: a2 :: a3 :: a4 :: a5 :: a6 :: a7 :: a8 :: some (.long x) :: ls) st sh Mr M := ex_lload_g d rfl k
theorem ex_ls9 {a0 a1 a2 a3 a4 a5 a6 a7 a8 : Option AV} {o o2 : Option AV} {x : Int64} (d : decode mi.2.1 pc = .ok (.lstore 9, 2)) (hn : 9 + 1 < mi.2.2.1) (hb : nl a8 = true) (k : Ex mi R Z X kc ks (pc + 2) (a0 :: a1 :: a2 :: a3 :: a4 :: a5 :: a6 :: a7 :: a8 :: some (.long x) :: none :: ls) st sh Mr M) : Ex mi R Z X kc ks pc (a0 :: a1 :: a2 :: a3 :: a4 :: a5 :: a6 :: a7 :: a8 :: o :: o2 :: ls) (.long x :: st) sh Mr M := ex_lstore_g d hn hb k
theorem ex_inc9 {a0 a1 a2 a3 a4 a5 a6 a7 a8 : Option AV} {n : Int} {x v : Int32} (d : decode mi.2.1 pc = .ok (.iinc 9 n, 3)) (hn : 9 < mi.2.2.1) (hb : nl a8 = true) (hv : x + Int32.ofInt n = v) (k : Ex mi R Z X kc ks (pc + 3) (a0 :: a1 :: a2 :: a3 :: a4 :: a5 :: a6 :: a7 :: a8 :: some (.int v) :: ls) st sh Mr M) : Ex mi R Z X kc ks pc (a0 :: a1 :: a2 :: a3 :: a4 :: a5 :: a6 :: a7 :: a8 :: some (.int x) :: ls) st sh Mr M := by
  subst hv
  exact ex_iinc_g d hn hb rfl k
theorem ex_il10 {a0 a1 a2 a3 a4 a5 a6 a7 a8 a9 : Option AV} {x : Int32} (d : decode mi.2.1 pc = .ok (.iload 10, 2)) (k : Ex mi R Z X kc ks (pc + 2) (a0 :: a1 :: a2 :: a3 :: a4 :: a5 :: a6 :: a7 :: a8 :: a9 :: some (.int x) :: ls) (.int x :: st) sh Mr M) : Ex mi R Z X kc ks pc (a0 :: a1 :: a2 :: a3 :: a4 :: a5 :: a6 :: a7 :: a8 :: a9 :: some (.int x) :: ls) st sh Mr M := ex_iload_g d rfl k
theorem ex_is10 {a0 a1 a2 a3 a4 a5 a6 a7 a8 a9 : Option AV} {o : Option AV} {x : Int32} (d : decode mi.2.1 pc = .ok (.istore 10, 2)) (hn : 10 < mi.2.2.1) (hb : nl a9 = true) (k : Ex mi R Z X kc ks (pc + 2) (a0 :: a1 :: a2 :: a3 :: a4 :: a5 :: a6 :: a7 :: a8 :: a9 :: some (.int x) :: ls) st sh Mr M) : Ex mi R Z X kc ks pc (a0 :: a1 :: a2 :: a3 :: a4 :: a5 :: a6 :: a7 :: a8 :: a9 :: o :: ls) (.int x :: st) sh Mr M := ex_istore_g d hn hb k
theorem ex_al10 {a0 a1 a2 a3 a4 a5 a6 a7 a8 a9 : Option AV} {x : Nat} (d : decode mi.2.1 pc = .ok (.aload 10, 2)) (k : Ex mi R Z X kc ks (pc + 2) (a0 :: a1 :: a2 :: a3 :: a4 :: a5 :: a6 :: a7 :: a8 :: a9 :: some (.ref x) :: ls) (.ref x :: st) sh Mr M) : Ex mi R Z X kc ks pc (a0 :: a1 :: a2 :: a3 :: a4 :: a5 :: a6 :: a7 :: a8 :: a9 :: some (.ref x) :: ls) st sh Mr M := ex_aload_g d rfl k
theorem ex_as10 {a0 a1 a2 a3 a4 a5 a6 a7 a8 a9 : Option AV} {o : Option AV} {x : Nat} (d : decode mi.2.1 pc = .ok (.astore 10, 2)) (hn : 10 < mi.2.2.1) (hb : nl a9 = true) (k : Ex mi R Z X kc ks (pc + 2) (a0 :: a1 :: a2 :: a3 :: a4 :: a5 :: a6 :: a7 :: a8 :: a9 :: some (.ref x) :: ls) st sh Mr M) : Ex mi R Z X kc ks pc (a0 :: a1 :: a2 :: a3 :: a4 :: a5 :: a6 :: a7 :: a8 :: a9 :: o :: ls) (.ref x :: st) sh Mr M := ex_astore_g d hn hb k
theorem ex_ll10 {a0 a1 a2 a3 a4 a5 a6 a7 a8 a9 : Option AV} {x : Int64} (d : decode mi.2.1 pc = .ok (.lload 10, 2)) (k : Ex mi R Z X kc ks (pc + 2) (a0 :: a1 :: a2 :: a3 :: a4 :: a5 :: a6 :: a7 :: a8 :: a9 :: some (.long x) :: ls) (.long x :: st) sh Mr M) : Ex mi R Z X kc ks pc (a0 :: a1 :: a2 :: a3 :: a4 :: a5 :: a6 :: a7 :: a8 :: a9 :: some (.long x) :: ls) st sh Mr M := ex_lload_g d rfl k
theorem ex_ls10 {a0 a1 a2 a3 a4 a5 a6 a7 a8 a9 : Option AV} {o o2 : Option AV} {x : Int64} (d : decode mi.2.1 pc = .ok (.lstore 10, 2)) (hn : 10 + 1 < mi.2.2.1) (hb : nl a9 = true) (k : Ex mi R Z X kc ks (pc + 2) (a0 :: a1 :: a2 :: a3 :: a4 :: a5 :: a6 :: a7 :: a8 :: a9 :: some (.long x) :: none :: ls) st sh Mr M) : Ex mi R Z X kc ks pc (a0 :: a1 :: a2 :: a3 :: a4 :: a5 :: a6 :: a7 :: a8 :: a9 :: o :: o2 :: ls) (.long x :: st) sh Mr M := ex_lstore_g d hn hb k
theorem ex_inc10 {a0 a1 a2 a3 a4 a5 a6 a7 a8 a9 : Option AV} {n : Int} {x v : Int32} (d : decode mi.2.1 pc = .ok (.iinc 10 n, 3)) (hn : 10 < mi.2.2.1) (hb : nl a9 = true) (hv : x + Int32.ofInt n = v) (k : Ex mi R Z X kc ks (pc + 3) (a0 :: a1 :: a2 :: a3 :: a4 :: a5 :: a6 :: a7 :: a8 :: a9 :: some (.int v) :: ls) st sh Mr M) : Ex mi R Z X kc ks pc (a0 :: a1 :: a2 :: a3 :: a4 :: a5 :: a6 :: a7 :: a8 :: a9 :: some (.int x) :: ls) st sh Mr M := by
  subst hv
  exact ex_iinc_g d hn hb rfl k
theorem ex_il11 {a0 a1 a2 a3 a4 a5 a6 a7 a8 a9 a10 : Option AV} {x : Int32} (d : decode mi.2.1 pc = .ok (.iload 11, 2)) (k : Ex mi R Z X kc ks (pc + 2) (a0 :: a1 :: a2 :: a3 :: a4 :: a5 :: a6 :: a7 :: a8 :: a9 :: a10 :: some (.int x) :: ls) (.int x :: st) sh Mr M) : Ex mi R Z X kc ks pc (a0 :: a1 :: a2 :: a3 :: a4 :: a5 :: a6 :: a7 :: a8 :: a9 :: a10 :: some (.int x) :: ls) st sh Mr M := ex_iload_g d rfl k
theorem ex_is11 {a0 a1 a2 a3 a4 a5 a6 a7 a8 a9 a10 : Option AV} {o : Option AV} {x : Int32} (d : decode mi.2.1 pc = .ok (.istore 11, 2)) (hn : 11 < mi.2.2.1) (hb : nl a10 = true) (k : Ex mi R Z X kc ks (pc + 2) (a0 :: a1 :: a2 :: a3 :: a4 :: a5 :: a6 :: a7 :: a8 :: a9 :: a10 :: some (.int x) :: ls) st sh Mr M) : Ex mi R Z X kc ks pc (a0 :: a1 :: a2 :: a3 :: a4 :: a5 :: a6 :: a7 :: a8 :: a9 :: a10 :: o :: ls) (.int x :: st) sh Mr M := ex_istore_g d hn hb k
theorem ex_al11 {a0 a1 a2 a3 a4 a5 a6 a7 a8 a9 a10 : Option AV} {x : Nat} (d : decode mi.2.1 pc = .ok (.aload 11, 2)) (k : Ex mi R Z X kc ks (pc + 2) (a0 :: a1 :: a2 :: a3 :: a4 :: a5 :: a6 :: a7 :: a8 :: a9 :: a10 :: some (.ref x) :: ls) (.ref x :: st) sh Mr M) : Ex mi R Z X kc ks pc (a0 :: a1 :: a2 :: a3 :: a4 :: a5 :: a6 :: a7 :: a8 :: a9 :: a10 :: some (.ref x) :: ls) st sh Mr M := ex_aload_g d rfl k
theorem ex_as11 {a0 a1 a2 a3 a4 a5 a6 a7 a8 a9 a10 : Option AV} {o : Option AV} {x : Nat} (d : decode mi.2.1 pc = .ok (.astore 11, 2)) (hn : 11 < mi.2.2.1) (hb : nl a10 = true) (k : Ex mi R Z X kc ks (pc + 2) (a0 :: a1 :: a2 :: a3 :: a4 :: a5 :: a6 :: a7 :: a8 :: a9 :: a10 :: some (.ref x) :: ls) st sh Mr M) : Ex mi R Z X kc ks pc (a0 :: a1 :: a2 :: a3 :: a4 :: a5 :: a6 :: a7 :: a8 :: a9 :: a10 :: o :: ls) (.ref x :: st) sh Mr M := ex_astore_g d hn hb k
theorem ex_ll11 {a0 a1 a2 a3 a4 a5 a6 a7 a8 a9 a10 : Option AV} {x : Int64} (d : decode mi.2.1 pc = .ok (.lload 11, 2)) (k : Ex mi R Z X kc ks (pc + 2) (a0 :: a1 :: a2 :: a3 :: a4 :: a5 :: a6 :: a7 :: a8 :: a9 :: a10 :: some (.long x) :: ls) (.long x :: st) sh Mr M) : Ex mi R Z X kc ks pc (a0 :: a1 :: a2 :: a3 :: a4 :: a5 :: a6 :: a7 :: a8 :: a9 :: a10 :: some (.long x) :: ls) st sh Mr M := ex_lload_g d rfl k
theorem ex_ls11 {a0 a1 a2 a3 a4 a5 a6 a7 a8 a9 a10 : Option AV} {o o2 : Option AV} {x : Int64} (d : decode mi.2.1 pc = .ok (.lstore 11, 2)) (hn : 11 + 1 < mi.2.2.1) (hb : nl a10 = true) (k : Ex mi R Z X kc ks (pc + 2) (a0 :: a1 :: a2 :: a3 :: a4 :: a5 :: a6 :: a7 :: a8 :: a9 :: a10 :: some (.long x) :: none :: ls) st sh Mr M) : Ex mi R Z X kc ks pc (a0 :: a1 :: a2 :: a3 :: a4 :: a5 :: a6 :: a7 :: a8 :: a9 :: a10 :: o :: o2 :: ls) (.long x :: st) sh Mr M := ex_lstore_g d hn hb k
theorem ex_inc11 {a0 a1 a2 a3 a4 a5 a6 a7 a8 a9 a10 : Option AV} {n : Int} {x v : Int32} (d : decode mi.2.1 pc = .ok (.iinc 11 n, 3)) (hn : 11 < mi.2.2.1) (hb : nl a10 = true) (hv : x + Int32.ofInt n = v) (k : Ex mi R Z X kc ks (pc + 3) (a0 :: a1 :: a2 :: a3 :: a4 :: a5 :: a6 :: a7 :: a8 :: a9 :: a10 :: some (.int v) :: ls) st sh Mr M) : Ex mi R Z X kc ks pc (a0 :: a1 :: a2 :: a3 :: a4 :: a5 :: a6 :: a7 :: a8 :: a9 :: a10 :: some (.int x) :: ls) st sh Mr M := by
  subst hv
  exact ex_iinc_g d hn hb rfl k
theorem ex_il12 {a0 a1 a2 a3 a4 a5 a6 a7 a8 a9 a10 a11 : Option AV} {x : Int32} (d : decode mi.2.1 pc = .ok (.iload 12, 2)) (k : Ex mi R Z X kc ks (pc + 2) (a0 :: a1 :: a2 :: a3 :: a4 :: a5 :: a6 :: a7 :: a8 :: a9 :: a10 :: a11 :: some (.int x) :: ls) (.int x :: st) sh Mr M) : Ex mi R Z X kc ks pc (a0 :: a1 :: a2 :: a3 :: a4 :: a5 :: a6 :: a7 :: a8 :: a9 :: a10 :: a11 :: some (.int x) :: ls) st sh Mr M := ex_iload_g d rfl k
theorem ex_is12 {a0 a1 a2 a3 a4 a5 a6 a7 a8 a9 a10 a11 : Option AV} {o : Option AV} {x : Int32} (d : decode mi.2.1 pc = .ok (.istore 12, 2)) (hn : 12 < mi.2.2.1) (hb : nl a11 = true) (k : Ex mi R Z X kc ks (pc + 2) (a0 :: a1 :: a2 :: a3 :: a4 :: a5 :: a6 :: a7 :: a8 :: a9 :: a10 :: a11 :: some (.int x) :: ls) st sh Mr M) : Ex mi R Z X kc ks pc (a0 :: a1 :: a2 :: a3 :: a4 :: a5 :: a6 :: a7 :: a8 :: a9 :: a10 :: a11 :: o :: ls) (.int x :: st) sh Mr M := ex_istore_g d hn hb k
theorem ex_al12 {a0 a1 a2 a3 a4 a5 a6 a7 a8 a9 a10 a11 : Option AV} {x : Nat} (d : decode mi.2.1 pc = .ok (.aload 12, 2)) (k : Ex mi R Z X kc ks (pc + 2) (a0 :: a1 :: a2 :: a3 :: a4 :: a5 :: a6 :: a7 :: a8 :: a9 :: a10 :: a11 :: some (.ref x) :: ls) (.ref x :: st) sh Mr M) : Ex mi R Z X kc ks pc (a0 :: a1 :: a2 :: a3 :: a4 :: a5 :: a6 :: a7 :: a8 :: a9 :: a10 :: a11 :: some (.ref x) :: ls) st sh Mr M := ex_aload_g d rfl k
theorem ex_as12 {a0 a1 a2 a3 a4 a5 a6 a7 a8 a9 a10 a11 : Option AV} {o : Option AV} {x : Nat} (d : decode mi.2.1 pc = .ok (.astore 12, 2)) (hn : 12 < mi.2.2.1) (hb : nl a11 = true) (k : Ex mi R Z X kc ks (pc + 2) (a0 :: a1 :: a2 :: a3 :: a4 :: a5 :: a6 :: a7 :: a8 :: a9 :: a10 :: a11 :: some (.ref x) :: ls) st sh Mr M) : Ex mi R Z X kc ks pc (a0 :: a1 :: a2 :: a3 :: a4 :: a5 :: a6 :: a7 :: a8 :: a9 :: a10 :: a11 :: o :: ls) (.ref x :: st) sh Mr M := ex_astore_g d hn hb k
theorem ex_ll12 {a0 a1 a2 a3 a4 a5 a6 a7 a8 a9 a10 a11 : Option AV} {x : Int64} (d : decode mi.2.1 pc = .ok (.lload 12, 2)) (k : Ex mi R Z X kc ks (pc + 2) (a0 :: a1 :: a2 :: a3 :: a4 :: a5 :: a6 :: a7 :: a8 :: a9 :: a10 :: a11 :: some (.long x) :: ls) (.long x :: st) sh Mr M) : Ex mi R Z X kc ks pc (a0 :: a1 :: a2 :: a3 :: a4 :: a5 :: a6 :: a7 :: a8 :: a9 :: a10 :: a11 :: some (.long x) :: ls) st sh Mr M := ex_lload_g d rfl k
theorem ex_ls12 {a0 a1 a2 a3 a4 a5 a6 a7 a8 a9 a10 a11 : Option AV} {o o2 : Option AV} {x : Int64} (d : decode mi.2.1 pc = .ok (.lstore 12, 2)) (hn : 12 + 1 < mi.2.2.1) (hb : nl a11 = true) (k : Ex mi R Z X kc ks (pc + 2) (a0 :: a1 :: a2 :: a3 :: a4 :: a5 :: a6 :: a7 :: a8 :: a9 :: a10 :: a11 :: some (.long x) :: none :: ls) st sh Mr M) : Ex mi R Z X kc ks pc (a0 :: a1 :: a2 :: a3 :: a4 :: a5 :: a6 :: a7 :: a8 :: a9 :: a10 :: a11 :: o :: o2 :: ls) (.long x :: st) sh Mr M := ex_lstore_g d hn hb k
theorem ex_inc12 {a0 a1 a2 a3 a4 a5 a6 a7 a8 a9 a10 a11 : Option AV} {n : Int} {x v : Int32} (d : decode mi.2.1 pc = .ok (.iinc 12 n, 3)) (hn : 12 < mi.2.2.1) (hb : nl a11 = true) (hv : x + Int32.ofInt n = v) (k : Ex mi R Z X kc ks (pc + 3) (a0 :: a1 :: a2 :: a3 :: a4 :: a5 :: a6 :: a7 :: a8 :: a9 :: a10 :: a11 :: some (.int v) :: ls) st sh Mr M) : Ex mi R Z X kc ks pc (a0 :: a1 :: a2 :: a3 :: a4 :: a5 :: a6 :: a7 :: a8 :: a9 :: a10 :: a11 :: some (.int x) :: ls) st sh Mr M := by
  subst hv
  exact ex_iinc_g d hn hb rfl k
theorem hf0 {a b : Nat} (h : a ≤ b) : a + 0 ≤ b := h
def roomOK (ce : MI) (R : Room) : Prop := ce.2.2.2.2.1 + 1 ≤ R.frames ∧ 8 + (ce.2.2.1 + 11) + ce.2.2.2.2.2 ≤ R.locals
theorem ex_SI0 {ce : MI} {idx : Nat} {Q : Int32 → MM → Prop} (d : decode mi.2.1 pc = .ok (.invokestatic idx, 3)) (hL : LKS mi.1.cls idx ce 0) (hR : roomOK ce R) (hf : kc ≤ R.cells ∧ ks ≤ R.slots) (hw : st.length ≤ 4) (hC : CtI ce [] sh Mr M Q) (k : ∀ v M', Q v M' → Ex mi R Z X kc ks (pc + 3) ls (.int v :: st) sh Mr M') : Ex mi R Z X kc ks pc ls (st) sh Mr M := by
  refine ex_callS d hL xm_tr hC rfl rfl hw hR ⟨hf0 hf.1, hf0 hf.2⟩ (fun r sh' Mr' M' h => ?_)
  obtain ⟨rfl, rfl, v, rfl, hq⟩ := h
  exact k v M' hq
theorem ex_SP0 {ce : MI} {idx : Nat} {v : Int32} (d : decode mi.2.1 pc = .ok (.invokestatic idx, 3)) (hL : LKS mi.1.cls idx ce 0) (hR : roomOK ce R) (hf : kc ≤ R.cells ∧ ks ≤ R.slots) (hw : st.length ≤ 4) (hC : CtP ce [] sh Mr M v) (k : Ex mi R Z X kc ks (pc + 3) ls (.int v :: st) sh Mr M) : Ex mi R Z X kc ks pc ls (st) sh Mr M := by
  refine ex_SI0 d hL hR hf hw hC (fun v M' h => ?_)
  obtain ⟨rfl, rfl⟩ := h
  exact k
theorem ex_SV0 {ce : MI} {idx : Nat} {Q : MM → Prop} (d : decode mi.2.1 pc = .ok (.invokestatic idx, 3)) (hL : LKS mi.1.cls idx ce 0) (hR : roomOK ce R) (hf : kc ≤ R.cells ∧ ks ≤ R.slots) (hw : st.length ≤ 4) (hC : CtV ce [] sh Mr M Q) (k : ∀ M', Q M' → Ex mi R Z X kc ks (pc + 3) ls st sh Mr M') : Ex mi R Z X kc ks pc ls (st) sh Mr M := by
  refine ex_callS d hL xm_tr hC rfl rfl hw hR ⟨hf0 hf.1, hf0 hf.2⟩ (fun r sh' Mr' M' h => ?_)
  obtain ⟨rfl, rfl, rfl, hq⟩ := h
  exact k M' hq
theorem ex_VI0 {ce : MI} {idx : Nat} {c0 ci z : Nat} {Q : Int32 → MM → Prop} (d : decode mi.2.1 pc = .ok (.invokevirtual idx, 3)) (hL : LKV mi.1.cls idx ce 0) (hs : sh[c0]? = some (ci + 3, z)) (hcl : ∃ (T : u_T) (N : Nat), vwCl[ci]? = some (ce.1.cls, T, N)) (hR : roomOK ce R) (hf : kc ≤ R.cells ∧ ks ≤ R.slots) (hw : st.length ≤ 4) (hC : CtI ce (.ref c0 :: []) sh Mr M Q) (k : ∀ v M', Q v M' → Ex mi R Z X kc ks (pc + 3) ls (.int v :: st) sh Mr M') : Ex mi R Z X kc ks pc ls (.ref c0 :: st) sh Mr M := by
  refine ex_callV d hL hs hcl xm_tr hC rfl rfl hw hR ⟨hf0 hf.1, hf0 hf.2⟩ (fun r sh' Mr' M' h => ?_)
  obtain ⟨rfl, rfl, v, rfl, hq⟩ := h
  exact k v M' hq
theorem ex_VP0 {ce : MI} {idx : Nat} {c0 ci z : Nat} {v : Int32} (d : decode mi.2.1 pc = .ok (.invokevirtual idx, 3)) (hL : LKV mi.1.cls idx ce 0) (hs : sh[c0]? = some (ci + 3, z)) (hcl : ∃ (T : u_T) (N : Nat), vwCl[ci]? = some (ce.1.cls, T, N)) (hR : roomOK ce R) (hf : kc ≤ R.cells ∧ ks ≤ R.slots) (hw : st.length ≤ 4) (hC : CtP ce (.ref c0 :: []) sh Mr M v) (k : Ex mi R Z X kc ks (pc + 3) ls (.int v :: st) sh Mr M) : Ex mi R Z X kc ks pc ls (.ref c0 :: st) sh Mr M := by
  refine ex_VI0 d hL hs hcl hR hf hw hC (fun v M' h => ?_)
  obtain ⟨rfl, rfl⟩ := h
  exact k
theorem ex_VV0 {ce : MI} {idx : Nat} {c0 ci z : Nat} {Q : MM → Prop} (d : decode mi.2.1 pc = .ok (.invokevirtual idx, 3)) (hL : LKV mi.1.cls idx ce 0) (hs : sh[c0]? = some (ci + 3, z)) (hcl : ∃ (T : u_T) (N : Nat), vwCl[ci]? = some (ce.1.cls, T, N)) (hR : roomOK ce R) (hf : kc ≤ R.cells ∧ ks ≤ R.slots) (hw : st.length ≤ 4) (hC : CtV ce (.ref c0 :: []) sh Mr M Q) (k : ∀ M', Q M' → Ex mi R Z X kc ks (pc + 3) ls st sh Mr M') : Ex mi R Z X kc ks pc ls (.ref c0 :: st) sh Mr M := by
  refine ex_callV d hL hs hcl xm_tr hC rfl rfl hw hR ⟨hf0 hf.1, hf0 hf.2⟩ (fun r sh' Mr' M' h => ?_)
  obtain ⟨rfl, rfl, rfl, hq⟩ := h
  exact k M' hq
theorem ex_SI1 {ce : MI} {idx : Nat} {b0 : AV} {Q : Int32 → MM → Prop} (d : decode mi.2.1 pc = .ok (.invokestatic idx, 3)) (hL : LKS mi.1.cls idx ce 1) (hR : roomOK ce R) (hf : kc ≤ R.cells ∧ ks ≤ R.slots) (hw : st.length ≤ 4) (hC : CtI ce [b0] sh Mr M Q) (k : ∀ v M', Q v M' → Ex mi R Z X kc ks (pc + 3) ls (.int v :: st) sh Mr M') : Ex mi R Z X kc ks pc ls (b0 :: st) sh Mr M := by
  refine ex_callS d hL xm_tr hC rfl rfl hw hR ⟨hf0 hf.1, hf0 hf.2⟩ (fun r sh' Mr' M' h => ?_)
  obtain ⟨rfl, rfl, v, rfl, hq⟩ := h
  exact k v M' hq
theorem ex_SP1 {ce : MI} {idx : Nat} {b0 : AV} {v : Int32} (d : decode mi.2.1 pc = .ok (.invokestatic idx, 3)) (hL : LKS mi.1.cls idx ce 1) (hR : roomOK ce R) (hf : kc ≤ R.cells ∧ ks ≤ R.slots) (hw : st.length ≤ 4) (hC : CtP ce [b0] sh Mr M v) (k : Ex mi R Z X kc ks (pc + 3) ls (.int v :: st) sh Mr M) : Ex mi R Z X kc ks pc ls (b0 :: st) sh Mr M := by
  refine ex_SI1 d hL hR hf hw hC (fun v M' h => ?_)
  obtain ⟨rfl, rfl⟩ := h
  exact k
theorem ex_SV1 {ce : MI} {idx : Nat} {b0 : AV} {Q : MM → Prop} (d : decode mi.2.1 pc = .ok (.invokestatic idx, 3)) (hL : LKS mi.1.cls idx ce 1) (hR : roomOK ce R) (hf : kc ≤ R.cells ∧ ks ≤ R.slots) (hw : st.length ≤ 4) (hC : CtV ce [b0] sh Mr M Q) (k : ∀ M', Q M' → Ex mi R Z X kc ks (pc + 3) ls st sh Mr M') : Ex mi R Z X kc ks pc ls (b0 :: st) sh Mr M := by
  refine ex_callS d hL xm_tr hC rfl rfl hw hR ⟨hf0 hf.1, hf0 hf.2⟩ (fun r sh' Mr' M' h => ?_)
  obtain ⟨rfl, rfl, rfl, hq⟩ := h
  exact k M' hq
theorem ex_VI1 {ce : MI} {idx : Nat} {b0 : AV} {c0 ci z : Nat} {Q : Int32 → MM → Prop} (d : decode mi.2.1 pc = .ok (.invokevirtual idx, 3)) (hL : LKV mi.1.cls idx ce 1) (hs : sh[c0]? = some (ci + 3, z)) (hcl : ∃ (T : u_T) (N : Nat), vwCl[ci]? = some (ce.1.cls, T, N)) (hR : roomOK ce R) (hf : kc ≤ R.cells ∧ ks ≤ R.slots) (hw : st.length ≤ 4) (hC : CtI ce (.ref c0 :: [b0]) sh Mr M Q) (k : ∀ v M', Q v M' → Ex mi R Z X kc ks (pc + 3) ls (.int v :: st) sh Mr M') : Ex mi R Z X kc ks pc ls (b0 :: .ref c0 :: st) sh Mr M := by
  refine ex_callV d hL hs hcl xm_tr hC rfl rfl hw hR ⟨hf0 hf.1, hf0 hf.2⟩ (fun r sh' Mr' M' h => ?_)
  obtain ⟨rfl, rfl, v, rfl, hq⟩ := h
  exact k v M' hq
theorem ex_VP1 {ce : MI} {idx : Nat} {b0 : AV} {c0 ci z : Nat} {v : Int32} (d : decode mi.2.1 pc = .ok (.invokevirtual idx, 3)) (hL : LKV mi.1.cls idx ce 1) (hs : sh[c0]? = some (ci + 3, z)) (hcl : ∃ (T : u_T) (N : Nat), vwCl[ci]? = some (ce.1.cls, T, N)) (hR : roomOK ce R) (hf : kc ≤ R.cells ∧ ks ≤ R.slots) (hw : st.length ≤ 4) (hC : CtP ce (.ref c0 :: [b0]) sh Mr M v) (k : Ex mi R Z X kc ks (pc + 3) ls (.int v :: st) sh Mr M) : Ex mi R Z X kc ks pc ls (b0 :: .ref c0 :: st) sh Mr M := by
  refine ex_VI1 d hL hs hcl hR hf hw hC (fun v M' h => ?_)
  obtain ⟨rfl, rfl⟩ := h
  exact k
theorem ex_VV1 {ce : MI} {idx : Nat} {b0 : AV} {c0 ci z : Nat} {Q : MM → Prop} (d : decode mi.2.1 pc = .ok (.invokevirtual idx, 3)) (hL : LKV mi.1.cls idx ce 1) (hs : sh[c0]? = some (ci + 3, z)) (hcl : ∃ (T : u_T) (N : Nat), vwCl[ci]? = some (ce.1.cls, T, N)) (hR : roomOK ce R) (hf : kc ≤ R.cells ∧ ks ≤ R.slots) (hw : st.length ≤ 4) (hC : CtV ce (.ref c0 :: [b0]) sh Mr M Q) (k : ∀ M', Q M' → Ex mi R Z X kc ks (pc + 3) ls st sh Mr M') : Ex mi R Z X kc ks pc ls (b0 :: .ref c0 :: st) sh Mr M := by
  refine ex_callV d hL hs hcl xm_tr hC rfl rfl hw hR ⟨hf0 hf.1, hf0 hf.2⟩ (fun r sh' Mr' M' h => ?_)
  obtain ⟨rfl, rfl, rfl, hq⟩ := h
  exact k M' hq
theorem ex_SI2 {ce : MI} {idx : Nat} {b0 b1 : AV} {Q : Int32 → MM → Prop} (d : decode mi.2.1 pc = .ok (.invokestatic idx, 3)) (hL : LKS mi.1.cls idx ce 2) (hR : roomOK ce R) (hf : kc ≤ R.cells ∧ ks ≤ R.slots) (hw : st.length ≤ 4) (hC : CtI ce [b0, b1] sh Mr M Q) (k : ∀ v M', Q v M' → Ex mi R Z X kc ks (pc + 3) ls (.int v :: st) sh Mr M') : Ex mi R Z X kc ks pc ls (b1 :: b0 :: st) sh Mr M := by
  refine ex_callS d hL xm_tr hC rfl rfl hw hR ⟨hf0 hf.1, hf0 hf.2⟩ (fun r sh' Mr' M' h => ?_)
  obtain ⟨rfl, rfl, v, rfl, hq⟩ := h
  exact k v M' hq
theorem ex_SP2 {ce : MI} {idx : Nat} {b0 b1 : AV} {v : Int32} (d : decode mi.2.1 pc = .ok (.invokestatic idx, 3)) (hL : LKS mi.1.cls idx ce 2) (hR : roomOK ce R) (hf : kc ≤ R.cells ∧ ks ≤ R.slots) (hw : st.length ≤ 4) (hC : CtP ce [b0, b1] sh Mr M v) (k : Ex mi R Z X kc ks (pc + 3) ls (.int v :: st) sh Mr M) : Ex mi R Z X kc ks pc ls (b1 :: b0 :: st) sh Mr M := by
  refine ex_SI2 d hL hR hf hw hC (fun v M' h => ?_)
  obtain ⟨rfl, rfl⟩ := h
  exact k
theorem ex_SV2 {ce : MI} {idx : Nat} {b0 b1 : AV} {Q : MM → Prop} (d : decode mi.2.1 pc = .ok (.invokestatic idx, 3)) (hL : LKS mi.1.cls idx ce 2) (hR : roomOK ce R) (hf : kc ≤ R.cells ∧ ks ≤ R.slots) (hw : st.length ≤ 4) (hC : CtV ce [b0, b1] sh Mr M Q) (k : ∀ M', Q M' → Ex mi R Z X kc ks (pc + 3) ls st sh Mr M') : Ex mi R Z X kc ks pc ls (b1 :: b0 :: st) sh Mr M := by
  refine ex_callS d hL xm_tr hC rfl rfl hw hR ⟨hf0 hf.1, hf0 hf.2⟩ (fun r sh' Mr' M' h => ?_)
  obtain ⟨rfl, rfl, rfl, hq⟩ := h
  exact k M' hq
theorem ex_VI2 {ce : MI} {idx : Nat} {b0 b1 : AV} {c0 ci z : Nat} {Q : Int32 → MM → Prop} (d : decode mi.2.1 pc = .ok (.invokevirtual idx, 3)) (hL : LKV mi.1.cls idx ce 2) (hs : sh[c0]? = some (ci + 3, z)) (hcl : ∃ (T : u_T) (N : Nat), vwCl[ci]? = some (ce.1.cls, T, N)) (hR : roomOK ce R) (hf : kc ≤ R.cells ∧ ks ≤ R.slots) (hw : st.length ≤ 4) (hC : CtI ce (.ref c0 :: [b0, b1]) sh Mr M Q) (k : ∀ v M', Q v M' → Ex mi R Z X kc ks (pc + 3) ls (.int v :: st) sh Mr M') : Ex mi R Z X kc ks pc ls (b1 :: b0 :: .ref c0 :: st) sh Mr M := by
  refine ex_callV d hL hs hcl xm_tr hC rfl rfl hw hR ⟨hf0 hf.1, hf0 hf.2⟩ (fun r sh' Mr' M' h => ?_)
  obtain ⟨rfl, rfl, v, rfl, hq⟩ := h
  exact k v M' hq
theorem ex_VP2 {ce : MI} {idx : Nat} {b0 b1 : AV} {c0 ci z : Nat} {v : Int32} (d : decode mi.2.1 pc = .ok (.invokevirtual idx, 3)) (hL : LKV mi.1.cls idx ce 2) (hs : sh[c0]? = some (ci + 3, z)) (hcl : ∃ (T : u_T) (N : Nat), vwCl[ci]? = some (ce.1.cls, T, N)) (hR : roomOK ce R) (hf : kc ≤ R.cells ∧ ks ≤ R.slots) (hw : st.length ≤ 4) (hC : CtP ce (.ref c0 :: [b0, b1]) sh Mr M v) (k : Ex mi R Z X kc ks (pc + 3) ls (.int v :: st) sh Mr M) : Ex mi R Z X kc ks pc ls (b1 :: b0 :: .ref c0 :: st) sh Mr M := by
  refine ex_VI2 d hL hs hcl hR hf hw hC (fun v M' h => ?_)
  obtain ⟨rfl, rfl⟩ := h
  exact k
theorem ex_VV2 {ce : MI} {idx : Nat} {b0 b1 : AV} {c0 ci z : Nat} {Q : MM → Prop} (d : decode mi.2.1 pc = .ok (.invokevirtual idx, 3)) (hL : LKV mi.1.cls idx ce 2) (hs : sh[c0]? = some (ci + 3, z)) (hcl : ∃ (T : u_T) (N : Nat), vwCl[ci]? = some (ce.1.cls, T, N)) (hR : roomOK ce R) (hf : kc ≤ R.cells ∧ ks ≤ R.slots) (hw : st.length ≤ 4) (hC : CtV ce (.ref c0 :: [b0, b1]) sh Mr M Q) (k : ∀ M', Q M' → Ex mi R Z X kc ks (pc + 3) ls st sh Mr M') : Ex mi R Z X kc ks pc ls (b1 :: b0 :: .ref c0 :: st) sh Mr M := by
  refine ex_callV d hL hs hcl xm_tr hC rfl rfl hw hR ⟨hf0 hf.1, hf0 hf.2⟩ (fun r sh' Mr' M' h => ?_)
  obtain ⟨rfl, rfl, rfl, hq⟩ := h
  exact k M' hq
theorem ex_SI3 {ce : MI} {idx : Nat} {b0 b1 b2 : AV} {Q : Int32 → MM → Prop} (d : decode mi.2.1 pc = .ok (.invokestatic idx, 3)) (hL : LKS mi.1.cls idx ce 3) (hR : roomOK ce R) (hf : kc ≤ R.cells ∧ ks ≤ R.slots) (hw : st.length ≤ 4) (hC : CtI ce [b0, b1, b2] sh Mr M Q) (k : ∀ v M', Q v M' → Ex mi R Z X kc ks (pc + 3) ls (.int v :: st) sh Mr M') : Ex mi R Z X kc ks pc ls (b2 :: b1 :: b0 :: st) sh Mr M := by
  refine ex_callS d hL xm_tr hC rfl rfl hw hR ⟨hf0 hf.1, hf0 hf.2⟩ (fun r sh' Mr' M' h => ?_)
  obtain ⟨rfl, rfl, v, rfl, hq⟩ := h
  exact k v M' hq
theorem ex_SP3 {ce : MI} {idx : Nat} {b0 b1 b2 : AV} {v : Int32} (d : decode mi.2.1 pc = .ok (.invokestatic idx, 3)) (hL : LKS mi.1.cls idx ce 3) (hR : roomOK ce R) (hf : kc ≤ R.cells ∧ ks ≤ R.slots) (hw : st.length ≤ 4) (hC : CtP ce [b0, b1, b2] sh Mr M v) (k : Ex mi R Z X kc ks (pc + 3) ls (.int v :: st) sh Mr M) : Ex mi R Z X kc ks pc ls (b2 :: b1 :: b0 :: st) sh Mr M := by
  refine ex_SI3 d hL hR hf hw hC (fun v M' h => ?_)
  obtain ⟨rfl, rfl⟩ := h
  exact k
theorem ex_SV3 {ce : MI} {idx : Nat} {b0 b1 b2 : AV} {Q : MM → Prop} (d : decode mi.2.1 pc = .ok (.invokestatic idx, 3)) (hL : LKS mi.1.cls idx ce 3) (hR : roomOK ce R) (hf : kc ≤ R.cells ∧ ks ≤ R.slots) (hw : st.length ≤ 4) (hC : CtV ce [b0, b1, b2] sh Mr M Q) (k : ∀ M', Q M' → Ex mi R Z X kc ks (pc + 3) ls st sh Mr M') : Ex mi R Z X kc ks pc ls (b2 :: b1 :: b0 :: st) sh Mr M := by
  refine ex_callS d hL xm_tr hC rfl rfl hw hR ⟨hf0 hf.1, hf0 hf.2⟩ (fun r sh' Mr' M' h => ?_)
  obtain ⟨rfl, rfl, rfl, hq⟩ := h
  exact k M' hq
theorem ex_VI3 {ce : MI} {idx : Nat} {b0 b1 b2 : AV} {c0 ci z : Nat} {Q : Int32 → MM → Prop} (d : decode mi.2.1 pc = .ok (.invokevirtual idx, 3)) (hL : LKV mi.1.cls idx ce 3) (hs : sh[c0]? = some (ci + 3, z)) (hcl : ∃ (T : u_T) (N : Nat), vwCl[ci]? = some (ce.1.cls, T, N)) (hR : roomOK ce R) (hf : kc ≤ R.cells ∧ ks ≤ R.slots) (hw : st.length ≤ 4) (hC : CtI ce (.ref c0 :: [b0, b1, b2]) sh Mr M Q) (k : ∀ v M', Q v M' → Ex mi R Z X kc ks (pc + 3) ls (.int v :: st) sh Mr M') : Ex mi R Z X kc ks pc ls (b2 :: b1 :: b0 :: .ref c0 :: st) sh Mr M := by
  refine ex_callV d hL hs hcl xm_tr hC rfl rfl hw hR ⟨hf0 hf.1, hf0 hf.2⟩ (fun r sh' Mr' M' h => ?_)
  obtain ⟨rfl, rfl, v, rfl, hq⟩ := h
  exact k v M' hq
theorem ex_VP3 {ce : MI} {idx : Nat} {b0 b1 b2 : AV} {c0 ci z : Nat} {v : Int32} (d : decode mi.2.1 pc = .ok (.invokevirtual idx, 3)) (hL : LKV mi.1.cls idx ce 3) (hs : sh[c0]? = some (ci + 3, z)) (hcl : ∃ (T : u_T) (N : Nat), vwCl[ci]? = some (ce.1.cls, T, N)) (hR : roomOK ce R) (hf : kc ≤ R.cells ∧ ks ≤ R.slots) (hw : st.length ≤ 4) (hC : CtP ce (.ref c0 :: [b0, b1, b2]) sh Mr M v) (k : Ex mi R Z X kc ks (pc + 3) ls (.int v :: st) sh Mr M) : Ex mi R Z X kc ks pc ls (b2 :: b1 :: b0 :: .ref c0 :: st) sh Mr M := by
  refine ex_VI3 d hL hs hcl hR hf hw hC (fun v M' h => ?_)
  obtain ⟨rfl, rfl⟩ := h
  exact k
theorem ex_VV3 {ce : MI} {idx : Nat} {b0 b1 b2 : AV} {c0 ci z : Nat} {Q : MM → Prop} (d : decode mi.2.1 pc = .ok (.invokevirtual idx, 3)) (hL : LKV mi.1.cls idx ce 3) (hs : sh[c0]? = some (ci + 3, z)) (hcl : ∃ (T : u_T) (N : Nat), vwCl[ci]? = some (ce.1.cls, T, N)) (hR : roomOK ce R) (hf : kc ≤ R.cells ∧ ks ≤ R.slots) (hw : st.length ≤ 4) (hC : CtV ce (.ref c0 :: [b0, b1, b2]) sh Mr M Q) (k : ∀ M', Q M' → Ex mi R Z X kc ks (pc + 3) ls st sh Mr M') : Ex mi R Z X kc ks pc ls (b2 :: b1 :: b0 :: .ref c0 :: st) sh Mr M := by
  refine ex_callV d hL hs hcl xm_tr hC rfl rfl hw hR ⟨hf0 hf.1, hf0 hf.2⟩ (fun r sh' Mr' M' h => ?_)
  obtain ⟨rfl, rfl, rfl, hq⟩ := h
  exact k M' hq
theorem ex_SI4 {ce : MI} {idx : Nat} {b0 b1 b2 b3 : AV} {Q : Int32 → MM → Prop} (d : decode mi.2.1 pc = .ok (.invokestatic idx, 3)) (hL : LKS mi.1.cls idx ce 4) (hR : roomOK ce R) (hf : kc ≤ R.cells ∧ ks ≤ R.slots) (hw : st.length ≤ 4) (hC : CtI ce [b0, b1, b2, b3] sh Mr M Q) (k : ∀ v M', Q v M' → Ex mi R Z X kc ks (pc + 3) ls (.int v :: st) sh Mr M') : Ex mi R Z X kc ks pc ls (b3 :: b2 :: b1 :: b0 :: st) sh Mr M := by
  refine ex_callS d hL xm_tr hC rfl rfl hw hR ⟨hf0 hf.1, hf0 hf.2⟩ (fun r sh' Mr' M' h => ?_)
  obtain ⟨rfl, rfl, v, rfl, hq⟩ := h
  exact k v M' hq
theorem ex_SP4 {ce : MI} {idx : Nat} {b0 b1 b2 b3 : AV} {v : Int32} (d : decode mi.2.1 pc = .ok (.invokestatic idx, 3)) (hL : LKS mi.1.cls idx ce 4) (hR : roomOK ce R) (hf : kc ≤ R.cells ∧ ks ≤ R.slots) (hw : st.length ≤ 4) (hC : CtP ce [b0, b1, b2, b3] sh Mr M v) (k : Ex mi R Z X kc ks (pc + 3) ls (.int v :: st) sh Mr M) : Ex mi R Z X kc ks pc ls (b3 :: b2 :: b1 :: b0 :: st) sh Mr M := by
  refine ex_SI4 d hL hR hf hw hC (fun v M' h => ?_)
  obtain ⟨rfl, rfl⟩ := h
  exact k
theorem ex_SV4 {ce : MI} {idx : Nat} {b0 b1 b2 b3 : AV} {Q : MM → Prop} (d : decode mi.2.1 pc = .ok (.invokestatic idx, 3)) (hL : LKS mi.1.cls idx ce 4) (hR : roomOK ce R) (hf : kc ≤ R.cells ∧ ks ≤ R.slots) (hw : st.length ≤ 4) (hC : CtV ce [b0, b1, b2, b3] sh Mr M Q) (k : ∀ M', Q M' → Ex mi R Z X kc ks (pc + 3) ls st sh Mr M') : Ex mi R Z X kc ks pc ls (b3 :: b2 :: b1 :: b0 :: st) sh Mr M := by
  refine ex_callS d hL xm_tr hC rfl rfl hw hR ⟨hf0 hf.1, hf0 hf.2⟩ (fun r sh' Mr' M' h => ?_)
  obtain ⟨rfl, rfl, rfl, hq⟩ := h
  exact k M' hq
theorem ex_VI4 {ce : MI} {idx : Nat} {b0 b1 b2 b3 : AV} {c0 ci z : Nat} {Q : Int32 → MM → Prop} (d : decode mi.2.1 pc = .ok (.invokevirtual idx, 3)) (hL : LKV mi.1.cls idx ce 4) (hs : sh[c0]? = some (ci + 3, z)) (hcl : ∃ (T : u_T) (N : Nat), vwCl[ci]? = some (ce.1.cls, T, N)) (hR : roomOK ce R) (hf : kc ≤ R.cells ∧ ks ≤ R.slots) (hw : st.length ≤ 4) (hC : CtI ce (.ref c0 :: [b0, b1, b2, b3]) sh Mr M Q) (k : ∀ v M', Q v M' → Ex mi R Z X kc ks (pc + 3) ls (.int v :: st) sh Mr M') : Ex mi R Z X kc ks pc ls (b3 :: b2 :: b1 :: b0 :: .ref c0 :: st) sh Mr M := by
  refine ex_callV d hL hs hcl xm_tr hC rfl rfl hw hR ⟨hf0 hf.1, hf0 hf.2⟩ (fun r sh' Mr' M' h => ?_)
  obtain ⟨rfl, rfl, v, rfl, hq⟩ := h
  exact k v M' hq
theorem ex_VP4 {ce : MI} {idx : Nat} {b0 b1 b2 b3 : AV} {c0 ci z : Nat} {v : Int32} (d : decode mi.2.1 pc = .ok (.invokevirtual idx, 3)) (hL : LKV mi.1.cls idx ce 4) (hs : sh[c0]? = some (ci + 3, z)) (hcl : ∃ (T : u_T) (N : Nat), vwCl[ci]? = some (ce.1.cls, T, N)) (hR : roomOK ce R) (hf : kc ≤ R.cells ∧ ks ≤ R.slots) (hw : st.length ≤ 4) (hC : CtP ce (.ref c0 :: [b0, b1, b2, b3]) sh Mr M v) (k : Ex mi R Z X kc ks (pc + 3) ls (.int v :: st) sh Mr M) : Ex mi R Z X kc ks pc ls (b3 :: b2 :: b1 :: b0 :: .ref c0 :: st) sh Mr M := by
  refine ex_VI4 d hL hs hcl hR hf hw hC (fun v M' h => ?_)
  obtain ⟨rfl, rfl⟩ := h
  exact k
theorem ex_VV4 {ce : MI} {idx : Nat} {b0 b1 b2 b3 : AV} {c0 ci z : Nat} {Q : MM → Prop} (d : decode mi.2.1 pc = .ok (.invokevirtual idx, 3)) (hL : LKV mi.1.cls idx ce 4) (hs : sh[c0]? = some (ci + 3, z)) (hcl : ∃ (T : u_T) (N : Nat), vwCl[ci]? = some (ce.1.cls, T, N)) (hR : roomOK ce R) (hf : kc ≤ R.cells ∧ ks ≤ R.slots) (hw : st.length ≤ 4) (hC : CtV ce (.ref c0 :: [b0, b1, b2, b3]) sh Mr M Q) (k : ∀ M', Q M' → Ex mi R Z X kc ks (pc + 3) ls st sh Mr M') : Ex mi R Z X kc ks pc ls (b3 :: b2 :: b1 :: b0 :: .ref c0 :: st) sh Mr M := by
  refine ex_callV d hL hs hcl xm_tr hC rfl rfl hw hR ⟨hf0 hf.1, hf0 hf.2⟩ (fun r sh' Mr' M' h => ?_)
  obtain ⟨rfl, rfl, rfl, hq⟩ := h
  exact k M' hq
theorem ex_SI5 {ce : MI} {idx : Nat} {b0 b1 b2 b3 b4 : AV} {Q : Int32 → MM → Prop} (d : decode mi.2.1 pc = .ok (.invokestatic idx, 3)) (hL : LKS mi.1.cls idx ce 5) (hR : roomOK ce R) (hf : kc ≤ R.cells ∧ ks ≤ R.slots) (hw : st.length ≤ 4) (hC : CtI ce [b0, b1, b2, b3, b4] sh Mr M Q) (k : ∀ v M', Q v M' → Ex mi R Z X kc ks (pc + 3) ls (.int v :: st) sh Mr M') : Ex mi R Z X kc ks pc ls (b4 :: b3 :: b2 :: b1 :: b0 :: st) sh Mr M := by
  refine ex_callS d hL xm_tr hC rfl rfl hw hR ⟨hf0 hf.1, hf0 hf.2⟩ (fun r sh' Mr' M' h => ?_)
  obtain ⟨rfl, rfl, v, rfl, hq⟩ := h
  exact k v M' hq
theorem ex_SP5 {ce : MI} {idx : Nat} {b0 b1 b2 b3 b4 : AV} {v : Int32} (d : decode mi.2.1 pc = .ok (.invokestatic idx, 3)) (hL : LKS mi.1.cls idx ce 5) (hR : roomOK ce R) (hf : kc ≤ R.cells ∧ ks ≤ R.slots) (hw : st.length ≤ 4) (hC : CtP ce [b0, b1, b2, b3, b4] sh Mr M v) (k : Ex mi R Z X kc ks (pc + 3) ls (.int v :: st) sh Mr M) : Ex mi R Z X kc ks pc ls (b4 :: b3 :: b2 :: b1 :: b0 :: st) sh Mr M := by
  refine ex_SI5 d hL hR hf hw hC (fun v M' h => ?_)
  obtain ⟨rfl, rfl⟩ := h
  exact k
theorem ex_SV5 {ce : MI} {idx : Nat} {b0 b1 b2 b3 b4 : AV} {Q : MM → Prop} (d : decode mi.2.1 pc = .ok (.invokestatic idx, 3)) (hL : LKS mi.1.cls idx ce 5) (hR : roomOK ce R) (hf : kc ≤ R.cells ∧ ks ≤ R.slots) (hw : st.length ≤ 4) (hC : CtV ce [b0, b1, b2, b3, b4] sh Mr M Q) (k : ∀ M', Q M' → Ex mi R Z X kc ks (pc + 3) ls st sh Mr M') : Ex mi R Z X kc ks pc ls (b4 :: b3 :: b2 :: b1 :: b0 :: st) sh Mr M := by
  refine ex_callS d hL xm_tr hC rfl rfl hw hR ⟨hf0 hf.1, hf0 hf.2⟩ (fun r sh' Mr' M' h => ?_)
  obtain ⟨rfl, rfl, rfl, hq⟩ := h
  exact k M' hq
theorem ex_VI5 {ce : MI} {idx : Nat} {b0 b1 b2 b3 b4 : AV} {c0 ci z : Nat} {Q : Int32 → MM → Prop} (d : decode mi.2.1 pc = .ok (.invokevirtual idx, 3)) (hL : LKV mi.1.cls idx ce 5) (hs : sh[c0]? = some (ci + 3, z)) (hcl : ∃ (T : u_T) (N : Nat), vwCl[ci]? = some (ce.1.cls, T, N)) (hR : roomOK ce R) (hf : kc ≤ R.cells ∧ ks ≤ R.slots) (hw : st.length ≤ 4) (hC : CtI ce (.ref c0 :: [b0, b1, b2, b3, b4]) sh Mr M Q) (k : ∀ v M', Q v M' → Ex mi R Z X kc ks (pc + 3) ls (.int v :: st) sh Mr M') : Ex mi R Z X kc ks pc ls (b4 :: b3 :: b2 :: b1 :: b0 :: .ref c0 :: st) sh Mr M := by
  refine ex_callV d hL hs hcl xm_tr hC rfl rfl hw hR ⟨hf0 hf.1, hf0 hf.2⟩ (fun r sh' Mr' M' h => ?_)
  obtain ⟨rfl, rfl, v, rfl, hq⟩ := h
  exact k v M' hq
theorem ex_VP5 {ce : MI} {idx : Nat} {b0 b1 b2 b3 b4 : AV} {c0 ci z : Nat} {v : Int32} (d : decode mi.2.1 pc = .ok (.invokevirtual idx, 3)) (hL : LKV mi.1.cls idx ce 5) (hs : sh[c0]? = some (ci + 3, z)) (hcl : ∃ (T : u_T) (N : Nat), vwCl[ci]? = some (ce.1.cls, T, N)) (hR : roomOK ce R) (hf : kc ≤ R.cells ∧ ks ≤ R.slots) (hw : st.length ≤ 4) (hC : CtP ce (.ref c0 :: [b0, b1, b2, b3, b4]) sh Mr M v) (k : Ex mi R Z X kc ks (pc + 3) ls (.int v :: st) sh Mr M) : Ex mi R Z X kc ks pc ls (b4 :: b3 :: b2 :: b1 :: b0 :: .ref c0 :: st) sh Mr M := by
  refine ex_VI5 d hL hs hcl hR hf hw hC (fun v M' h => ?_)
  obtain ⟨rfl, rfl⟩ := h
  exact k
theorem ex_VV5 {ce : MI} {idx : Nat} {b0 b1 b2 b3 b4 : AV} {c0 ci z : Nat} {Q : MM → Prop} (d : decode mi.2.1 pc = .ok (.invokevirtual idx, 3)) (hL : LKV mi.1.cls idx ce 5) (hs : sh[c0]? = some (ci + 3, z)) (hcl : ∃ (T : u_T) (N : Nat), vwCl[ci]? = some (ce.1.cls, T, N)) (hR : roomOK ce R) (hf : kc ≤ R.cells ∧ ks ≤ R.slots) (hw : st.length ≤ 4) (hC : CtV ce (.ref c0 :: [b0, b1, b2, b3, b4]) sh Mr M Q) (k : ∀ M', Q M' → Ex mi R Z X kc ks (pc + 3) ls st sh Mr M') : Ex mi R Z X kc ks pc ls (b4 :: b3 :: b2 :: b1 :: b0 :: .ref c0 :: st) sh Mr M := by
  refine ex_callV d hL hs hcl xm_tr hC rfl rfl hw hR ⟨hf0 hf.1, hf0 hf.2⟩ (fun r sh' Mr' M' h => ?_)
  obtain ⟨rfl, rfl, rfl, hq⟩ := h
  exact k M' hq
theorem ex_SI6 {ce : MI} {idx : Nat} {b0 b1 b2 b3 b4 b5 : AV} {Q : Int32 → MM → Prop} (d : decode mi.2.1 pc = .ok (.invokestatic idx, 3)) (hL : LKS mi.1.cls idx ce 6) (hR : roomOK ce R) (hf : kc ≤ R.cells ∧ ks ≤ R.slots) (hw : st.length ≤ 4) (hC : CtI ce [b0, b1, b2, b3, b4, b5] sh Mr M Q) (k : ∀ v M', Q v M' → Ex mi R Z X kc ks (pc + 3) ls (.int v :: st) sh Mr M') : Ex mi R Z X kc ks pc ls (b5 :: b4 :: b3 :: b2 :: b1 :: b0 :: st) sh Mr M := by
  refine ex_callS d hL xm_tr hC rfl rfl hw hR ⟨hf0 hf.1, hf0 hf.2⟩ (fun r sh' Mr' M' h => ?_)
  obtain ⟨rfl, rfl, v, rfl, hq⟩ := h
  exact k v M' hq
theorem ex_SP6 {ce : MI} {idx : Nat} {b0 b1 b2 b3 b4 b5 : AV} {v : Int32} (d : decode mi.2.1 pc = .ok (.invokestatic idx, 3)) (hL : LKS mi.1.cls idx ce 6) (hR : roomOK ce R) (hf : kc ≤ R.cells ∧ ks ≤ R.slots) (hw : st.length ≤ 4) (hC : CtP ce [b0, b1, b2, b3, b4, b5] sh Mr M v) (k : Ex mi R Z X kc ks (pc + 3) ls (.int v :: st) sh Mr M) : Ex mi R Z X kc ks pc ls (b5 :: b4 :: b3 :: b2 :: b1 :: b0 :: st) sh Mr M := by
  refine ex_SI6 d hL hR hf hw hC (fun v M' h => ?_)
  obtain ⟨rfl, rfl⟩ := h
  exact k
theorem ex_SV6 {ce : MI} {idx : Nat} {b0 b1 b2 b3 b4 b5 : AV} {Q : MM → Prop} (d : decode mi.2.1 pc = .ok (.invokestatic idx, 3)) (hL : LKS mi.1.cls idx ce 6) (hR : roomOK ce R) (hf : kc ≤ R.cells ∧ ks ≤ R.slots) (hw : st.length ≤ 4) (hC : CtV ce [b0, b1, b2, b3, b4, b5] sh Mr M Q) (k : ∀ M', Q M' → Ex mi R Z X kc ks (pc + 3) ls st sh Mr M') : Ex mi R Z X kc ks pc ls (b5 :: b4 :: b3 :: b2 :: b1 :: b0 :: st) sh Mr M := by
  refine ex_callS d hL xm_tr hC rfl rfl hw hR ⟨hf0 hf.1, hf0 hf.2⟩ (fun r sh' Mr' M' h => ?_)
  obtain ⟨rfl, rfl, rfl, hq⟩ := h
  exact k M' hq
theorem ex_VI6 {ce : MI} {idx : Nat} {b0 b1 b2 b3 b4 b5 : AV} {c0 ci z : Nat} {Q : Int32 → MM → Prop} (d : decode mi.2.1 pc = .ok (.invokevirtual idx, 3)) (hL : LKV mi.1.cls idx ce 6) (hs : sh[c0]? = some (ci + 3, z)) (hcl : ∃ (T : u_T) (N : Nat), vwCl[ci]? = some (ce.1.cls, T, N)) (hR : roomOK ce R) (hf : kc ≤ R.cells ∧ ks ≤ R.slots) (hw : st.length ≤ 4) (hC : CtI ce (.ref c0 :: [b0, b1, b2, b3, b4, b5]) sh Mr M Q) (k : ∀ v M', Q v M' → Ex mi R Z X kc ks (pc + 3) ls (.int v :: st) sh Mr M') : Ex mi R Z X kc ks pc ls (b5 :: b4 :: b3 :: b2 :: b1 :: b0 :: .ref c0 :: st) sh Mr M := by
  refine ex_callV d hL hs hcl xm_tr hC rfl rfl hw hR ⟨hf0 hf.1, hf0 hf.2⟩ (fun r sh' Mr' M' h => ?_)
  obtain ⟨rfl, rfl, v, rfl, hq⟩ := h
  exact k v M' hq
theorem ex_VP6 {ce : MI} {idx : Nat} {b0 b1 b2 b3 b4 b5 : AV} {c0 ci z : Nat} {v : Int32} (d : decode mi.2.1 pc = .ok (.invokevirtual idx, 3)) (hL : LKV mi.1.cls idx ce 6) (hs : sh[c0]? = some (ci + 3, z)) (hcl : ∃ (T : u_T) (N : Nat), vwCl[ci]? = some (ce.1.cls, T, N)) (hR : roomOK ce R) (hf : kc ≤ R.cells ∧ ks ≤ R.slots) (hw : st.length ≤ 4) (hC : CtP ce (.ref c0 :: [b0, b1, b2, b3, b4, b5]) sh Mr M v) (k : Ex mi R Z X kc ks (pc + 3) ls (.int v :: st) sh Mr M) : Ex mi R Z X kc ks pc ls (b5 :: b4 :: b3 :: b2 :: b1 :: b0 :: .ref c0 :: st) sh Mr M := by
  refine ex_VI6 d hL hs hcl hR hf hw hC (fun v M' h => ?_)
  obtain ⟨rfl, rfl⟩ := h
  exact k
theorem ex_VV6 {ce : MI} {idx : Nat} {b0 b1 b2 b3 b4 b5 : AV} {c0 ci z : Nat} {Q : MM → Prop} (d : decode mi.2.1 pc = .ok (.invokevirtual idx, 3)) (hL : LKV mi.1.cls idx ce 6) (hs : sh[c0]? = some (ci + 3, z)) (hcl : ∃ (T : u_T) (N : Nat), vwCl[ci]? = some (ce.1.cls, T, N)) (hR : roomOK ce R) (hf : kc ≤ R.cells ∧ ks ≤ R.slots) (hw : st.length ≤ 4) (hC : CtV ce (.ref c0 :: [b0, b1, b2, b3, b4, b5]) sh Mr M Q) (k : ∀ M', Q M' → Ex mi R Z X kc ks (pc + 3) ls st sh Mr M') : Ex mi R Z X kc ks pc ls (b5 :: b4 :: b3 :: b2 :: b1 :: b0 :: .ref c0 :: st) sh Mr M := by
  refine ex_callV d hL hs hcl xm_tr hC rfl rfl hw hR ⟨hf0 hf.1, hf0 hf.2⟩ (fun r sh' Mr' M' h => ?_)
  obtain ⟨rfl, rfl, rfl, hq⟩ := h
  exact k M' hq
end EX2
