section EX3
variable {mi : MI} {R : Room} {Z : GE → Nat × Nat → List Frame → Array Value → State → State → Prop} {X : XT} {kc ks pc : Nat} {ls : List (Option AV)} {st : List AV} {sh : Sh} {Mr : MR} {M : MM}
theorem ex_iaddN {a b : Nat} (d : decode mi.2.1 pc = .ok (.iadd, 1)) (k : Ex mi R Z X kc ks (pc + 1) ls (.int (nI (a + b)) :: st) sh Mr M) : Ex mi R Z X kc ks pc ls (.int (nI b) :: .int (nI a) :: st) sh Mr M := ex_iadd d (ex_top (nI_add a b) k)
theorem ex_imulN {a b : Nat} (d : decode mi.2.1 pc = .ok (.imul, 1)) (k : Ex mi R Z X kc ks (pc + 1) ls (.int (nI (a * b)) :: st) sh Mr M) : Ex mi R Z X kc ks pc ls (.int (nI b) :: .int (nI a) :: st) sh Mr M := ex_imul d (ex_top (pk_mul a b) k)
theorem ex_isubN {a b : Nat} (d : decode mi.2.1 pc = .ok (.isub, 1)) (h : b ≤ a) (k : Ex mi R Z X kc ks (pc + 1) ls (.int (nI (a - b)) :: st) sh Mr M) : Ex mi R Z X kc ks pc ls (.int (nI b) :: .int (nI a) :: st) sh Mr M := ex_isub d (ex_top (pk_sub h) k)
theorem ex_iremN {a b : Nat} (d : decode mi.2.1 pc = .ok (.irem, 1)) (h : 0 < b ∧ a < 2 ^ 31 ∧ b < 2 ^ 31) (k : Ex mi R Z X kc ks (pc + 1) ls (.int (nI (a % b)) :: st) sh Mr M) : Ex mi R Z X kc ks pc ls (.int (nI b) :: .int (nI a) :: st) sh Mr M := ex_irem d (nI_ne0 h.1 h.2.2) (ex_top (pk_rem h.2.1 h.1 h.2.2) k)
theorem ex_idivN {a b : Nat} (d : decode mi.2.1 pc = .ok (.idiv, 1)) (h : 0 < b ∧ a < 2 ^ 31 ∧ b < 2 ^ 31) (k : Ex mi R Z X kc ks (pc + 1) ls (.int (nI (a / b)) :: st) sh Mr M) : Ex mi R Z X kc ks pc ls (.int (nI b) :: .int (nI a) :: st) sh Mr M := ex_idiv d (nI_ne0 h.1 h.2.2) (ex_top (pk_div h.2.1 h.1 h.2.2) k)
theorem ex_ildN {c n j : Nat} (d : decode mi.2.1 pc = .ok (.iaload, 1)) (hs : sh[c]? = some (0, n)) (hn : n < 2 ^ 31) (hj : j < n) (k : Ex mi R Z X kc ks (pc + 1) ls (.int (M c j) :: st) sh Mr M) : Ex mi R Z X kc ks pc ls (.int (nI j) :: .ref c :: st) sh Mr M := by
  refine ex_iald d hs (vp_in_nI hj hn) ?_
  rw [nI_clamp (Nat.lt_trans hj hn)]
  exact k
theorem ex_istN {c n j : Nat} {x : Int32} (d : decode mi.2.1 pc = .ok (.iastore, 1)) (hs : sh[c]? = some (0, n)) (hn : n < 2 ^ 31) (hj : j < n) (k : Ex mi R Z X kc ks (pc + 1) ls st sh Mr (wr M c j x)) : Ex mi R Z X kc ks pc ls (.int x :: .int (nI j) :: .ref c :: st) sh Mr M := by
  refine ex_iast d hs (vp_in_nI hj hn) ?_
  rw [nI_clamp (Nat.lt_trans hj hn)]
  exact k
theorem ex_aald1N {c n j a : Nat} (d : decode mi.2.1 pc = .ok (.aaload, 1)) (hs : sh[c]? = some (1, n)) (hn : n < 2 ^ 31) (hj : j < n) (hr : Mr c j = some a) (k : Ex mi R Z X kc ks (pc + 1) ls (.ref a :: st) sh Mr M) : Ex mi R Z X kc ks pc ls (.int (nI j) :: .ref c :: st) sh Mr M := ex_aald1 d hs (vp_in_nI hj hn) (by rw [nI_clamp (Nat.lt_trans hj hn)]; exact hr) k
theorem ex_aald2N {c n j a : Nat} (d : decode mi.2.1 pc = .ok (.aaload, 1)) (hs : sh[c]? = some (2, n)) (hn : n < 2 ^ 31) (hj : j < n) (hr : Mr c j = some a) (k : Ex mi R Z X kc ks (pc + 1) ls (.ref a :: st) sh Mr M) : Ex mi R Z X kc ks pc ls (.int (nI j) :: .ref c :: st) sh Mr M := ex_aald2 d hs (vp_in_nI hj hn) (by rw [nI_clamp (Nat.lt_trans hj hn)]; exact hr) k
theorem ex_icmp_eqN {a b : Nat} {off : Int} {tgt : Nat} (d : decode mi.2.1 pc = .ok (.if_icmp .eq off, 3)) (ht : (pc : Int) + off = (tgt : Int)) (ha : a < 2 ^ 31) (hb : b < 2 ^ 31) (kt : a = b → Ex mi R Z X kc ks tgt ls st sh Mr M) (kf : ¬ a = b → Ex mi R Z X kc ks (pc + 3) ls st sh Mr M) : Ex mi R Z X kc ks pc ls (.int (nI b) :: .int (nI a) :: st) sh Mr M := ex_icmp_eq d ht (fun h => kt ((nI_eq ha hb).mp h)) (fun h => kf (fun q => h ((nI_eq ha hb).mpr q)))
theorem ex_icmp_neN {a b : Nat} {off : Int} {tgt : Nat} (d : decode mi.2.1 pc = .ok (.if_icmp .ne off, 3)) (ht : (pc : Int) + off = (tgt : Int)) (ha : a < 2 ^ 31) (hb : b < 2 ^ 31) (kt : ¬ a = b → Ex mi R Z X kc ks tgt ls st sh Mr M) (kf : a = b → Ex mi R Z X kc ks (pc + 3) ls st sh Mr M) : Ex mi R Z X kc ks pc ls (.int (nI b) :: .int (nI a) :: st) sh Mr M := ex_icmp_ne d ht (fun h => kt (fun q => h ((nI_eq ha hb).mpr q))) (fun h => kf ((nI_eq ha hb).mp h))
theorem ex_icmp_ltN {a b : Nat} {off : Int} {tgt : Nat} (d : decode mi.2.1 pc = .ok (.if_icmp .lt off, 3)) (ht : (pc : Int) + off = (tgt : Int)) (ha : a < 2 ^ 31) (hb : b < 2 ^ 31) (kt : a < b → Ex mi R Z X kc ks tgt ls st sh Mr M) (kf : ¬ a < b → Ex mi R Z X kc ks (pc + 3) ls st sh Mr M) : Ex mi R Z X kc ks pc ls (.int (nI b) :: .int (nI a) :: st) sh Mr M := ex_icmp_lt d ht (fun h => kt ((nI_ltI ha hb).mp h)) (fun h => kf (fun q => h ((nI_ltI ha hb).mpr q)))
theorem ex_icmp_geN {a b : Nat} {off : Int} {tgt : Nat} (d : decode mi.2.1 pc = .ok (.if_icmp .ge off, 3)) (ht : (pc : Int) + off = (tgt : Int)) (ha : a < 2 ^ 31) (hb : b < 2 ^ 31) (kt : b ≤ a → Ex mi R Z X kc ks tgt ls st sh Mr M) (kf : ¬ b ≤ a → Ex mi R Z X kc ks (pc + 3) ls st sh Mr M) : Ex mi R Z X kc ks pc ls (.int (nI b) :: .int (nI a) :: st) sh Mr M := ex_icmp_ge d ht (fun h => kt ((nI_leI hb ha).mp h)) (fun h => kf (fun q => h ((nI_leI hb ha).mpr q)))
theorem ex_icmp_gtN {a b : Nat} {off : Int} {tgt : Nat} (d : decode mi.2.1 pc = .ok (.if_icmp .gt off, 3)) (ht : (pc : Int) + off = (tgt : Int)) (ha : a < 2 ^ 31) (hb : b < 2 ^ 31) (kt : b < a → Ex mi R Z X kc ks tgt ls st sh Mr M) (kf : ¬ b < a → Ex mi R Z X kc ks (pc + 3) ls st sh Mr M) : Ex mi R Z X kc ks pc ls (.int (nI b) :: .int (nI a) :: st) sh Mr M := ex_icmp_gt d ht (fun h => kt ((nI_ltI hb ha).mp h)) (fun h => kf (fun q => h ((nI_ltI hb ha).mpr q)))
theorem ex_icmp_leN {a b : Nat} {off : Int} {tgt : Nat} (d : decode mi.2.1 pc = .ok (.if_icmp .le off, 3)) (ht : (pc : Int) + off = (tgt : Int)) (ha : a < 2 ^ 31) (hb : b < 2 ^ 31) (kt : a ≤ b → Ex mi R Z X kc ks tgt ls st sh Mr M) (kf : ¬ a ≤ b → Ex mi R Z X kc ks (pc + 3) ls st sh Mr M) : Ex mi R Z X kc ks pc ls (.int (nI b) :: .int (nI a) :: st) sh Mr M := ex_icmp_le d ht (fun h => kt ((nI_leI ha hb).mp h)) (fun h => kf (fun q => h ((nI_leI ha hb).mpr q)))
theorem nI_z {a : Nat} (h : a < 2 ^ 31) : nI a = 0 ↔ a = 0 := by rw [← nI_0]; exact nI_eq h (by decide)
theorem ex_if_eqN {a : Nat} {off : Int} {tgt : Nat} (d : decode mi.2.1 pc = .ok (.ifCond .eq off, 3)) (ht : (pc : Int) + off = (tgt : Int)) (ha : a < 2 ^ 31) (kt : a = 0 → Ex mi R Z X kc ks tgt ls st sh Mr M) (kf : ¬ a = 0 → Ex mi R Z X kc ks (pc + 3) ls st sh Mr M) : Ex mi R Z X kc ks pc ls (.int (nI a) :: st) sh Mr M := ex_if_eq d ht (fun h => kt ((nI_z ha).mp h)) (fun h => kf (fun q => h ((nI_z ha).mpr q)))
theorem ex_if_neN {a : Nat} {off : Int} {tgt : Nat} (d : decode mi.2.1 pc = .ok (.ifCond .ne off, 3)) (ht : (pc : Int) + off = (tgt : Int)) (ha : a < 2 ^ 31) (kt : ¬ a = 0 → Ex mi R Z X kc ks tgt ls st sh Mr M) (kf : a = 0 → Ex mi R Z X kc ks (pc + 3) ls st sh Mr M) : Ex mi R Z X kc ks pc ls (.int (nI a) :: st) sh Mr M := ex_if_ne d ht (fun h => kt (fun q => h ((nI_z ha).mpr q))) (fun h => kf ((nI_z ha).mp h))
end EX3
def MD (sh : Sh) (Mr : MR) (B : Nat) : Prop := sh[B]? = some (12, 0) ∧ Mr B 1 = some (B + 1) ∧ sh[B + 1]? = some (0, 18) ∧ Mr B 3 = some (B + 2) ∧ sh[B + 2]? = some (0, 10) ∧ Mr B 4 = some (B + 3) ∧ sh[B + 3]? = some (0, 4) ∧ Mr B 6 = some (B + 4) ∧ sh[B + 4]? = some (0, 20) ∧ Mr B 8 = some (B + 5) ∧ sh[B + 5]? = some (0, 160) ∧ Mr B 10 = some (B + 6) ∧ sh[B + 6]? = some (0, 40) ∧ Mr B 12 = some (B + 7) ∧ sh[B + 7]? = some (0, 16) ∧ Mr B 13 = some (B + 8) ∧ sh[B + 8]? = some (0, 200) ∧ Mr B 16 = some (B + 9) ∧ sh[B + 9]? = some (0, 5) ∧ Mr B 18 = some (B + 10) ∧ sh[B + 10]? = some (0, 18) ∧ Mr B 20 = some (B + 11) ∧ sh[B + 11]? = some (0, 10) ∧ Mr B 21 = some (B + 12) ∧ sh[B + 12]? = some (0, 4) ∧ Mr B 23 = some (B + 13) ∧ sh[B + 13]? = some (0, 20) ∧ Mr B 24 = some (B + 14) ∧ sh[B + 14]? = some (0, 20) ∧ Mr B 26 = some (B + 15) ∧ sh[B + 15]? = some (0, 24) ∧ Mr B 27 = some (B + 16) ∧ sh[B + 16]? = some (0, 24) ∧ Mr B 28 = some (B + 17) ∧ sh[B + 17]? = some (0, 6) ∧ Mr B 29 = some (B + 18) ∧ sh[B + 18]? = some (0, 6)
theorem md_sh {sh : Sh} {Mr : MR} {B : Nat} (h : MD sh Mr B) : sh[B]? = some (12, 0) := h.1
theorem md_r1 {sh : Sh} {Mr : MR} {B : Nat} (h : MD sh Mr B) : Mr B 1 = some (B + 1) := h.2.1
theorem md_a1 {sh : Sh} {Mr : MR} {B : Nat} (h : MD sh Mr B) : sh[B + 1]? = some (0, 18) := h.2.2.1
theorem md_r3 {sh : Sh} {Mr : MR} {B : Nat} (h : MD sh Mr B) : Mr B 3 = some (B + 2) := h.2.2.2.1
theorem md_a3 {sh : Sh} {Mr : MR} {B : Nat} (h : MD sh Mr B) : sh[B + 2]? = some (0, 10) := h.2.2.2.2.1
theorem md_r4 {sh : Sh} {Mr : MR} {B : Nat} (h : MD sh Mr B) : Mr B 4 = some (B + 3) := h.2.2.2.2.2.1
theorem md_a4 {sh : Sh} {Mr : MR} {B : Nat} (h : MD sh Mr B) : sh[B + 3]? = some (0, 4) := h.2.2.2.2.2.2.1
theorem md_r6 {sh : Sh} {Mr : MR} {B : Nat} (h : MD sh Mr B) : Mr B 6 = some (B + 4) := h.2.2.2.2.2.2.2.1
theorem md_a6 {sh : Sh} {Mr : MR} {B : Nat} (h : MD sh Mr B) : sh[B + 4]? = some (0, 20) := h.2.2.2.2.2.2.2.2.1
theorem md_r8 {sh : Sh} {Mr : MR} {B : Nat} (h : MD sh Mr B) : Mr B 8 = some (B + 5) := h.2.2.2.2.2.2.2.2.2.1
theorem md_a8 {sh : Sh} {Mr : MR} {B : Nat} (h : MD sh Mr B) : sh[B + 5]? = some (0, 160) := h.2.2.2.2.2.2.2.2.2.2.1
theorem md_r10 {sh : Sh} {Mr : MR} {B : Nat} (h : MD sh Mr B) : Mr B 10 = some (B + 6) := h.2.2.2.2.2.2.2.2.2.2.2.1
theorem md_a10 {sh : Sh} {Mr : MR} {B : Nat} (h : MD sh Mr B) : sh[B + 6]? = some (0, 40) := h.2.2.2.2.2.2.2.2.2.2.2.2.1
theorem md_r12 {sh : Sh} {Mr : MR} {B : Nat} (h : MD sh Mr B) : Mr B 12 = some (B + 7) := h.2.2.2.2.2.2.2.2.2.2.2.2.2.1
theorem md_a12 {sh : Sh} {Mr : MR} {B : Nat} (h : MD sh Mr B) : sh[B + 7]? = some (0, 16) := h.2.2.2.2.2.2.2.2.2.2.2.2.2.2.1
theorem md_r13 {sh : Sh} {Mr : MR} {B : Nat} (h : MD sh Mr B) : Mr B 13 = some (B + 8) := h.2.2.2.2.2.2.2.2.2.2.2.2.2.2.2.1
theorem md_a13 {sh : Sh} {Mr : MR} {B : Nat} (h : MD sh Mr B) : sh[B + 8]? = some (0, 200) := h.2.2.2.2.2.2.2.2.2.2.2.2.2.2.2.2.1
theorem md_r16 {sh : Sh} {Mr : MR} {B : Nat} (h : MD sh Mr B) : Mr B 16 = some (B + 9) := h.2.2.2.2.2.2.2.2.2.2.2.2.2.2.2.2.2.1
theorem md_a16 {sh : Sh} {Mr : MR} {B : Nat} (h : MD sh Mr B) : sh[B + 9]? = some (0, 5) := h.2.2.2.2.2.2.2.2.2.2.2.2.2.2.2.2.2.2.1
theorem md_r18 {sh : Sh} {Mr : MR} {B : Nat} (h : MD sh Mr B) : Mr B 18 = some (B + 10) := h.2.2.2.2.2.2.2.2.2.2.2.2.2.2.2.2.2.2.2.1
theorem md_a18 {sh : Sh} {Mr : MR} {B : Nat} (h : MD sh Mr B) : sh[B + 10]? = some (0, 18) := h.2.2.2.2.2.2.2.2.2.2.2.2.2.2.2.2.2.2.2.2.1
theorem md_r20 {sh : Sh} {Mr : MR} {B : Nat} (h : MD sh Mr B) : Mr B 20 = some (B + 11) := h.2.2.2.2.2.2.2.2.2.2.2.2.2.2.2.2.2.2.2.2.2.1
theorem md_a20 {sh : Sh} {Mr : MR} {B : Nat} (h : MD sh Mr B) : sh[B + 11]? = some (0, 10) := h.2.2.2.2.2.2.2.2.2.2.2.2.2.2.2.2.2.2.2.2.2.2.1
theorem md_r21 {sh : Sh} {Mr : MR} {B : Nat} (h : MD sh Mr B) : Mr B 21 = some (B + 12) := h.2.2.2.2.2.2.2.2.2.2.2.2.2.2.2.2.2.2.2.2.2.2.2.1
theorem md_a21 {sh : Sh} {Mr : MR} {B : Nat} (h : MD sh Mr B) : sh[B + 12]? = some (0, 4) := h.2.2.2.2.2.2.2.2.2.2.2.2.2.2.2.2.2.2.2.2.2.2.2.2.1
theorem md_r23 {sh : Sh} {Mr : MR} {B : Nat} (h : MD sh Mr B) : Mr B 23 = some (B + 13) := h.2.2.2.2.2.2.2.2.2.2.2.2.2.2.2.2.2.2.2.2.2.2.2.2.2.1
theorem md_a23 {sh : Sh} {Mr : MR} {B : Nat} (h : MD sh Mr B) : sh[B + 13]? = some (0, 20) := h.2.2.2.2.2.2.2.2.2.2.2.2.2.2.2.2.2.2.2.2.2.2.2.2.2.2.1
theorem md_r24 {sh : Sh} {Mr : MR} {B : Nat} (h : MD sh Mr B) : Mr B 24 = some (B + 14) := h.2.2.2.2.2.2.2.2.2.2.2.2.2.2.2.2.2.2.2.2.2.2.2.2.2.2.2.1
theorem md_a24 {sh : Sh} {Mr : MR} {B : Nat} (h : MD sh Mr B) : sh[B + 14]? = some (0, 20) := h.2.2.2.2.2.2.2.2.2.2.2.2.2.2.2.2.2.2.2.2.2.2.2.2.2.2.2.2.1
theorem md_r26 {sh : Sh} {Mr : MR} {B : Nat} (h : MD sh Mr B) : Mr B 26 = some (B + 15) := h.2.2.2.2.2.2.2.2.2.2.2.2.2.2.2.2.2.2.2.2.2.2.2.2.2.2.2.2.2.1
theorem md_a26 {sh : Sh} {Mr : MR} {B : Nat} (h : MD sh Mr B) : sh[B + 15]? = some (0, 24) := h.2.2.2.2.2.2.2.2.2.2.2.2.2.2.2.2.2.2.2.2.2.2.2.2.2.2.2.2.2.2.1
theorem md_r27 {sh : Sh} {Mr : MR} {B : Nat} (h : MD sh Mr B) : Mr B 27 = some (B + 16) := h.2.2.2.2.2.2.2.2.2.2.2.2.2.2.2.2.2.2.2.2.2.2.2.2.2.2.2.2.2.2.2.1
theorem md_a27 {sh : Sh} {Mr : MR} {B : Nat} (h : MD sh Mr B) : sh[B + 16]? = some (0, 24) := h.2.2.2.2.2.2.2.2.2.2.2.2.2.2.2.2.2.2.2.2.2.2.2.2.2.2.2.2.2.2.2.2.1
theorem md_r28 {sh : Sh} {Mr : MR} {B : Nat} (h : MD sh Mr B) : Mr B 28 = some (B + 17) := h.2.2.2.2.2.2.2.2.2.2.2.2.2.2.2.2.2.2.2.2.2.2.2.2.2.2.2.2.2.2.2.2.2.1
theorem md_a28 {sh : Sh} {Mr : MR} {B : Nat} (h : MD sh Mr B) : sh[B + 17]? = some (0, 6) := h.2.2.2.2.2.2.2.2.2.2.2.2.2.2.2.2.2.2.2.2.2.2.2.2.2.2.2.2.2.2.2.2.2.2.1
theorem md_r29 {sh : Sh} {Mr : MR} {B : Nat} (h : MD sh Mr B) : Mr B 29 = some (B + 18) := h.2.2.2.2.2.2.2.2.2.2.2.2.2.2.2.2.2.2.2.2.2.2.2.2.2.2.2.2.2.2.2.2.2.2.2.1
theorem md_a29 {sh : Sh} {Mr : MR} {B : Nat} (h : MD sh Mr B) : sh[B + 18]? = some (0, 6) := h.2.2.2.2.2.2.2.2.2.2.2.2.2.2.2.2.2.2.2.2.2.2.2.2.2.2.2.2.2.2.2.2.2.2.2.2
def LA (sh : Sh) (Mr : MR) (L : Nat) : Prop := sh[L]? = some (4, 0) ∧ Mr L 1 = some (L + 1) ∧ sh[L + 1]? = some (0, 6) ∧ Mr L 2 = some (L + 2) ∧ sh[L + 2]? = some (0, 6) ∧ Mr L 3 = some (L + 3) ∧ sh[L + 3]? = some (0, 6) ∧ Mr L 4 = some (L + 4) ∧ sh[L + 4]? = some (0, 6) ∧ Mr L 5 = some (L + 5) ∧ sh[L + 5]? = some (0, 6) ∧ Mr L 7 = some (L + 6) ∧ sh[L + 6]? = some (0, 5) ∧ Mr L 8 = some (L + 7) ∧ sh[L + 7]? = some (0, 5) ∧ Mr L 9 = some (L + 8) ∧ sh[L + 8]? = some (0, 5) ∧ Mr L 10 = some (L + 9) ∧ sh[L + 9]? = some (0, 4)
theorem la_sh {sh : Sh} {Mr : MR} {L : Nat} (h : LA sh Mr L) : sh[L]? = some (4, 0) := h.1
theorem la_r1 {sh : Sh} {Mr : MR} {L : Nat} (h : LA sh Mr L) : Mr L 1 = some (L + 1) := h.2.1
theorem la_a1 {sh : Sh} {Mr : MR} {L : Nat} (h : LA sh Mr L) : sh[L + 1]? = some (0, 6) := h.2.2.1
theorem la_r2 {sh : Sh} {Mr : MR} {L : Nat} (h : LA sh Mr L) : Mr L 2 = some (L + 2) := h.2.2.2.1
theorem la_a2 {sh : Sh} {Mr : MR} {L : Nat} (h : LA sh Mr L) : sh[L + 2]? = some (0, 6) := h.2.2.2.2.1
theorem la_r3 {sh : Sh} {Mr : MR} {L : Nat} (h : LA sh Mr L) : Mr L 3 = some (L + 3) := h.2.2.2.2.2.1
theorem la_a3 {sh : Sh} {Mr : MR} {L : Nat} (h : LA sh Mr L) : sh[L + 3]? = some (0, 6) := h.2.2.2.2.2.2.1
theorem la_r4 {sh : Sh} {Mr : MR} {L : Nat} (h : LA sh Mr L) : Mr L 4 = some (L + 4) := h.2.2.2.2.2.2.2.1
theorem la_a4 {sh : Sh} {Mr : MR} {L : Nat} (h : LA sh Mr L) : sh[L + 4]? = some (0, 6) := h.2.2.2.2.2.2.2.2.1
theorem la_r5 {sh : Sh} {Mr : MR} {L : Nat} (h : LA sh Mr L) : Mr L 5 = some (L + 5) := h.2.2.2.2.2.2.2.2.2.1
theorem la_a5 {sh : Sh} {Mr : MR} {L : Nat} (h : LA sh Mr L) : sh[L + 5]? = some (0, 6) := h.2.2.2.2.2.2.2.2.2.2.1
theorem la_r7 {sh : Sh} {Mr : MR} {L : Nat} (h : LA sh Mr L) : Mr L 7 = some (L + 6) := h.2.2.2.2.2.2.2.2.2.2.2.1
theorem la_a7 {sh : Sh} {Mr : MR} {L : Nat} (h : LA sh Mr L) : sh[L + 6]? = some (0, 5) := h.2.2.2.2.2.2.2.2.2.2.2.2.1
theorem la_r8 {sh : Sh} {Mr : MR} {L : Nat} (h : LA sh Mr L) : Mr L 8 = some (L + 7) := h.2.2.2.2.2.2.2.2.2.2.2.2.2.1
theorem la_a8 {sh : Sh} {Mr : MR} {L : Nat} (h : LA sh Mr L) : sh[L + 7]? = some (0, 5) := h.2.2.2.2.2.2.2.2.2.2.2.2.2.2.1
theorem la_r9 {sh : Sh} {Mr : MR} {L : Nat} (h : LA sh Mr L) : Mr L 9 = some (L + 8) := h.2.2.2.2.2.2.2.2.2.2.2.2.2.2.2.1
theorem la_a9 {sh : Sh} {Mr : MR} {L : Nat} (h : LA sh Mr L) : sh[L + 8]? = some (0, 5) := h.2.2.2.2.2.2.2.2.2.2.2.2.2.2.2.2.1
theorem la_r10 {sh : Sh} {Mr : MR} {L : Nat} (h : LA sh Mr L) : Mr L 10 = some (L + 9) := h.2.2.2.2.2.2.2.2.2.2.2.2.2.2.2.2.2.1
theorem la_a10 {sh : Sh} {Mr : MR} {L : Nat} (h : LA sh Mr L) : sh[L + 9]? = some (0, 4) := h.2.2.2.2.2.2.2.2.2.2.2.2.2.2.2.2.2.2
def SA (sh : Sh) (Mr : MR) (S : Nat) : Prop := sh[S]? = some (10, 0) ∧ Mr S 1 = some (S + 1) ∧ sh[S + 1]? = some (0, 6) ∧ Mr S 2 = some (S + 2) ∧ sh[S + 2]? = some (0, 6) ∧ Mr S 3 = some (S + 3) ∧ sh[S + 3]? = some (0, 6)
theorem sa_sh {sh : Sh} {Mr : MR} {S : Nat} (h : SA sh Mr S) : sh[S]? = some (10, 0) := h.1
theorem sa_r1 {sh : Sh} {Mr : MR} {S : Nat} (h : SA sh Mr S) : Mr S 1 = some (S + 1) := h.2.1
theorem sa_a1 {sh : Sh} {Mr : MR} {S : Nat} (h : SA sh Mr S) : sh[S + 1]? = some (0, 6) := h.2.2.1
theorem sa_r2 {sh : Sh} {Mr : MR} {S : Nat} (h : SA sh Mr S) : Mr S 2 = some (S + 2) := h.2.2.2.1
theorem sa_a2 {sh : Sh} {Mr : MR} {S : Nat} (h : SA sh Mr S) : sh[S + 2]? = some (0, 6) := h.2.2.2.2.1
theorem sa_r3 {sh : Sh} {Mr : MR} {S : Nat} (h : SA sh Mr S) : Mr S 3 = some (S + 3) := h.2.2.2.2.2.1
theorem sa_a3 {sh : Sh} {Mr : MR} {S : Nat} (h : SA sh Mr S) : sh[S + 3]? = some (0, 6) := h.2.2.2.2.2.2
