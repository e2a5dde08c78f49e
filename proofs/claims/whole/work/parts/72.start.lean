/-! the law, from its entry -/
theorem inst_all : ∀ k, k < 10 → ∃ q, vwCl[k]? = some q ∧ Cond.instantiable q.1 q.2.2 ∈ lw_tbl := by
  intro k hk
  have go : ∀ {own : String} {idx ci : Nat}, NC own idx ci → ∃ q, vwCl[ci]? = some q ∧ Cond.instantiable q.1 q.2.2 ∈ lw_tbl := fun h => by
    obtain ⟨C, T, N, h1, -, h3, -⟩ := h
    exact ⟨_, h1, h3⟩
  rcases (show k = 0 ∨ k = 1 ∨ k = 2 ∨ k = 3 ∨ k = 4 ∨ k = 5 ∨ k = 6 ∨ k = 7 ∨ k = 8 ∨ k = 9 by omega) with rfl | rfl | rfl | rfl | rfl | rfl | rfl | rfl | rfl | rfl
  · exact go ncX8_62
  · exact go ncX8_23
  · exact go ncX8_7
  · exact go ncX8_55
  · exact go ncX8_43
  · exact go ncX8_16
  · exact go ncX8_69
  · exact go ncX8_33
  · exact go ncL_7
  · exact go ncL_10
def sv76 : Term := .field (.string "LetByColours" 76) "java/lang/String" "value" "[B"
theorem fl_el : ∀ j, j < 90 → Cond.eq (.elem sv76 (.int (Int32.ofNat j))) (.int (txB.getD j 0)) ∈ flatC (Jvm.Cond.and given_1 narrow_1) := by decide +kernel
theorem law_XS {s : State} {b : Nat} (hts : ∀ w ∈ lw_tbl, w.before #[Value.ref b] s = true) (hgv : (Jvm.Cond.and given_1 narrow_1).before #[Value.ref b] s = true) (z : Nat) : XS (s.heap.size, z) s := by
  have hs := flat_of_before _ hgv
  have hA : ∀ a : Nat, a < s.heap.size → ¬ Ab (s.heap.size, z) a := fun a ha => Nat.not_le.mpr ha
  obtain ⟨adK, adV, h1, h2⟩ := vk_Sof (args := #[Value.ref b]) (s := s) (N := 1) (tm := fun _ => .string "LetByColours" 76) (len := [90]) (byt := [txB]) (A := Ab (s.heap.size, z))
    (fun i hi => by have e : i = 0 := by omega
                    subst e; decide)
    (fun i hi => hs _ (by decide +kernel)) (fun i hi => hs _ (by decide +kernel)) (fun i hi => hs _ (by decide +kernel))
    (fun i hi => by have e : i = 0 := by omega
                    subst e; exact hs (Cond.eq (.length sv76) (.int 90)) (by decide +kernel))
    (fun i hi j hj => by have e : i = 0 := by omega
                         subst e; exact hs _ (fl_el j hj))
    (fun i j hi hj h => absurd (by omega) h) hA
  refine ⟨adK 0, adV 0, vk_R.of (hts _ (List.mem_of_getElem? (i := 301) (by decide +kernel))) (h2 0 (by decide)), ⟨fun i hi => ?_, fun i j hi hj _ => by omega⟩, va_Zof (hts _ (List.mem_of_getElem? (i := 311) (by decide +kernel))) (hts _ (List.mem_of_getElem? (i := 79) (by decide +kernel))) (va_eqt (hs (Cond.eq (.static "java/lang/String" "COMPACT_STRINGS" "Z") (.int 1)) (by decide +kernel))) hA, va_Zqof (hts _ (List.mem_of_getElem? (i := 327) (by decide +kernel))) (hts _ (List.mem_of_getElem? (i := 81) (by decide +kernel))) (hs (Cond.isRef (.static "jdk/internal/util/Preconditions" "SIOOBE_FORMATTER" "Ljava/util/function/BiFunction;")) (by decide +kernel)) hA⟩
  have e : i = 0 := by omega
  subst e
  exact h1.1 0 hi
theorem whole_start {p : Program} {e : Env} {s : State} {m : MethodId} {below : List Frame} {meth : Method} {c : Code} (l : Launch) {b L : Nat} {xs : Nat → Int32} (hL : L ≤ 320) (C0 : lw_At p s m meth c b L xs) : W p l e room_1 s m #[Value.ref b] below meth c s.heap [] 0 0 (lw_Z below #[Value.ref b] s) (entryFrame m ([Value.ref b] : List Value).toArray 4) := by
  obtain ⟨hx, hb, hr, hml, hown, hts, hX, hbl, hlocks, hgv⟩ := C0
  have hcl : ∀ k : Nat, ∃ q : ClassId × (Nat → Nat), ∀ r, vwCl[k]? = some r → u_Kn s r.1 r.2.1 r.2.2 q.1 q.2 := by
    intro k
    by_cases hk : k < 10
    · obtain ⟨r, h1, h2⟩ := inst_all k hk
      obtain ⟨cC, iS, h⟩ := u_known (C := r.1) (T := r.2.1) (N := r.2.2) (n := r.2.2) hts (cl_ok k r h1).1 (hts _ h2)
      exact ⟨(cC, iS), fun r' hr' => by rw [h1] at hr'; cases hr'; exact h⟩
    · exact ⟨(0, fun _ => 0), fun r hr' => absurd (List.getElem?_eq_some_iff.mp hr').1 hk⟩
  obtain ⟨fc, hfc⟩ := Classical.axiomOfChoice hcl
  obtain ⟨cI, kI, pI, i1, i2, i3⟩ := Cond.arrayClass_spec (hts _ ar_int)
  obtain ⟨pS, cS, kS, s1, -, s2, s3, s4⟩ := Cond.arrayOver_spec (hts (.arrayOver (.object RX7)) (List.mem_of_getElem? (i := 227) (by decide +kernel)))
  obtain ⟨pA, cA, kA, a1, -, a2, a3, a4⟩ := arrayOverA_spec (hts (.arrayOver (.array .int)) (List.mem_of_getElem? (i := 285) (by decide +kernel)))
  have hK : va_K (fun k => (fc k).1, fun k => (fc k).2) vwCl (tysE ((fun k => (fc k).1, fun k => (fc k).2), cI, cS, cA)) s := by
    refine ⟨fun k r hr' => hfc k r hr', fun k q hq => ?_⟩
    match k, hq with
    | 0, hq => cases hq; exact ⟨fun n z => ⟨fun k h => (by cases h), kI, i2, pI, i3⟩, i1⟩
    | 1, hq => cases hq; exact ⟨fun n z => ⟨fun k h => (by cases h), kS, s2, pS, s3⟩, kS, pS, s2, s3, s1, s4⟩
    | 2, hq => cases hq; exact ⟨fun n z => ⟨fun k h => (by cases h), kA, a2, pA, a3⟩, a4⟩
    | k + 3, hq => simp [tysE] at hq
  have F : Fix (mLw meth.name) (XL L xs) ((fun k => (fc k).1, fun k => (fc k).2), cI, cS, cA) (s.heap.size, b) p s m #[Value.ref b] meth c := ⟨hx, hb, hr, hml, hown, fun w hw _ => hts w hw, hlocks, rfl, hK, Nat.le_refl _, va_AO.of (hts (.arrayOver (.object RX7)) (List.mem_of_getElem? (i := 227) (by decide +kernel))), va_AOA.of (hts (.arrayOver (.array .int)) (List.mem_of_getElem? (i := 285) (by decide +kernel))), hX, hbl, hbl, law_XS hts hgv b⟩
  have hl := lv_entry ([.ref b]) (n := 4) (Nat.le_of_ble_eq_true rfl)
  rw [lg_entry_eq]
  generalize (lg_sl ([.ref b]) ++ List.replicate (4 - (lg_sl ([.ref b])).length) Slot.unset).toArray = ls at hl ⊢
  have hl : lv_has ls 4 [(0, .ref b)] := hl
  exact law_start hL l _ (s.heap.size, b) p e s m _ below meth c F s.heap [] ls (fun k q h => by cases h) va_S.rf hl rfl
