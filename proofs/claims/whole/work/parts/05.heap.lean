/-! rows of the abstract machine that touch the heap; calls; returns; a method's entry -/
theorem va_AOA.moved {t : FieldType} {u U : State} (hvm : u.vm.Alike U.vm) (h : va_AOA t u) : va_AOA t U := by
  obtain ⟨comp, c, k, h1, h2, h3, h4, h5⟩ := arrayOverA_spec h
  obtain ⟨k', hk', he⟩ := hvm.2.2 _ _ h3
  have e1 := va_idx_bare U.vm comp
  have e2 := va_idx_bare u.vm comp
  have hb : U.vm.bare = u.vm.bare := by first | exact hvm.bare_eq | exact hvm.bare_eq.symm
  have hi : (U.vm.classes.findIdx? fun (x : Class) => match x.kind with | .array component _ => component == comp | _ => false) = some c := by
    refine Eq.trans e1.symm ?_
    rw [hb]
    exact e2.trans h2
  have hkind : k'.kind = .array comp (.array t) := by rw [he]; exact h4
  have f1 : U.vm.findClass (FieldType.array t).toString = some comp := by rw [hvm.findClass]; exact h1
  have f2 : U.vm.findClass ("[" ++ (FieldType.array t).toString) = some c := by rw [hvm.findClass]; exact h5
  unfold va_AOA Cond.before Cond.holds
  simp only [Cond.value]
  rw [f1, Option.bind_some]
  refine (congrArg (fun o : Option Nat => (o.bind (fun c => (U.vm.classes[c]?).map fun (k : Class) => match k.kind with | .array _ ty => decide (ty = FieldType.array t) && decide (U.vm.findClass ("[" ++ (FieldType.array t).toString) = some c) | _ => false) == some true)) hi).trans ?_
  simp [hk', hkind, f2]
theorem KN.same {u U : State} (h : KN u) (hv : u.vm = U.vm) : KN U := ⟨fun w hw hn => va_Nw.same (by cases w <;> first | rfl | (simp [isNest] at hn)) hv (h.1 w hw hn), va_AO.moved (by rw [hv]; exact Vm.Alike.refl _) h.2.1, va_AOA.moved (by rw [hv]; exact Vm.Alike.refl _) h.2.2⟩
theorem KN.warm {s U : State} (h : KN s) (hW : s.WarmedH U.vm) : KN U := by
  refine ⟨fun w hw hn => ?_, va_AO.moved hW.alike h.2.1, va_AOA.moved hW.alike h.2.2⟩
  have h1 := h.1 w hw hn
  cases w <;> first | exact va_Nw.warmF hW h1 | exact va_Nw.warmM hW h1 | (simp [isNest] at hn)
theorem cl_ok : ∀ (ci : Nat) (q : vw_C), vwCl[ci]? = some q → (∀ w ∈ u_ws q.1 q.2.1 q.2.2, w ∈ lw_tbl) ∧ ∃ ty0 : Nat → FieldType, (∀ k, k < q.2.2 → parseFieldDescriptor (q.2.1 k).2.2.1 = some (ty0 k)) ∧ (∀ a, a < q.2.2 → ∀ b, b < q.2.2 → a ≠ b → (q.2.1 a).2.1 ≠ (q.2.1 b).2.1) ∧ q.2.2 = (fR.getD ci []).length ∧ (∀ k, k < q.2.2 → ((fR.getD ci [])[k]? = some false ∧ ty0 k = .int) ∨ ((fR.getD ci [])[k]? = some true ∧ defaultValue (ty0 k) = .null ∧ (∀ a, narrow (ty0 k) (.ref a) = .ref a ∧ fits (ty0 k) (.ref a) = true))) := by
  intro ci q hq
  have hlt : ci < 10 := (List.getElem?_eq_some_iff.mp hq).1
  have fin : ∀ (ty0 : Nat → FieldType) (n : Nat) (l : List Bool), (∀ k, k < n → (l[k]? = some false ∧ ty0 k = .int) ∨ (l[k]? = some true ∧ ∃ t, ty0 k = .array t ∨ ∃ t, ty0 k = .object t)) → ∀ k, k < n → (l[k]? = some false ∧ ty0 k = .int) ∨ (l[k]? = some true ∧ defaultValue (ty0 k) = .null ∧ (∀ a, narrow (ty0 k) (.ref a) = .ref a ∧ fits (ty0 k) (.ref a) = true)) := by
    intro ty0 n l h k hk
    rcases h k hk with h1 | ⟨h1, t, h2 | ⟨t2, h2⟩⟩
    · exact Or.inl h1
    · exact Or.inr ⟨h1, by rw [h2]; rfl, fun a => by rw [h2]; exact ⟨rfl, rfl⟩⟩
    · exact Or.inr ⟨h1, by rw [h2]; rfl, fun a => by rw [h2]; exact ⟨rfl, rfl⟩⟩
  match ci, hlt, hq with
  | 0, _, hq => cases hq; exact ⟨by decide +kernel, tyX0, tyX0_ok, nmX0, rfl, fin _ _ _ (by intro k hk; match k, hk with | 0, _ => exact Or.inr ⟨rfl, _, Or.inl rfl⟩ | 1, _ => exact Or.inr ⟨rfl, _, Or.inl rfl⟩ | 2, _ => exact Or.inr ⟨rfl, _, Or.inl rfl⟩ | 3, _ => exact Or.inl ⟨rfl, rfl⟩)⟩
  | 1, _, hq => cases hq; exact ⟨by decide +kernel, tyX1, tyX1_ok, nmX1, rfl, fin _ _ _ (by intro k hk; match k, hk with | 0, _ => exact Or.inl ⟨rfl, rfl⟩ | 1, _ => exact Or.inr ⟨rfl, _, Or.inl rfl⟩ | 2, _ => exact Or.inr ⟨rfl, _, Or.inl rfl⟩ | 3, _ => exact Or.inr ⟨rfl, _, Or.inl rfl⟩ | 4, _ => exact Or.inr ⟨rfl, _, Or.inl rfl⟩ | 5, _ => exact Or.inr ⟨rfl, _, Or.inl rfl⟩ | 6, _ => exact Or.inl ⟨rfl, rfl⟩ | 7, _ => exact Or.inr ⟨rfl, _, Or.inl rfl⟩ | 8, _ => exact Or.inr ⟨rfl, _, Or.inl rfl⟩ | 9, _ => exact Or.inr ⟨rfl, _, Or.inl rfl⟩ | 10, _ => exact Or.inr ⟨rfl, _, Or.inl rfl⟩ | 11, _ => exact Or.inl ⟨rfl, rfl⟩)⟩
  | 2, _, hq => cases hq; exact ⟨by decide +kernel, tyX2, tyX2_ok, nmX2, rfl, fin _ _ _ (by intro k hk; match k, hk with | 0, _ => exact Or.inr ⟨rfl, _, Or.inl rfl⟩ | 1, _ => exact Or.inl ⟨rfl, rfl⟩)⟩
  | 3, _, hq => cases hq; exact ⟨by decide +kernel, tyX3, tyX3_ok, nmX3, rfl, fin _ _ _ (by intro k hk; match k, hk with | 0, _ => exact Or.inr ⟨rfl, _, Or.inl rfl⟩ | 1, _ => exact Or.inr ⟨rfl, _, Or.inl rfl⟩ | 2, _ => exact Or.inl ⟨rfl, rfl⟩)⟩
  | 4, _, hq => cases hq; exact ⟨by decide +kernel, tyX4, tyX4_ok, nmX4, rfl, fin _ _ _ (by intro k hk; match k, hk with | 0, _ => exact Or.inr ⟨rfl, _, Or.inl rfl⟩ | 1, _ => exact Or.inl ⟨rfl, rfl⟩ | 2, _ => exact Or.inl ⟨rfl, rfl⟩)⟩
  | 5, _, hq => cases hq; exact ⟨by decide +kernel, tyX5, tyX5_ok, nmX5, rfl, fin _ _ _ (by intro k hk; match k, hk with | 0, _ => exact Or.inr ⟨rfl, _, Or.inl rfl⟩)⟩
  | 6, _, hq => cases hq; exact ⟨by decide +kernel, tyX6, tyX6_ok, nmX6, rfl, fin _ _ _ (by intro k hk; match k, hk with | 0, _ => exact Or.inr ⟨rfl, _, Or.inl rfl⟩ | 1, _ => exact Or.inr ⟨rfl, _, Or.inl rfl⟩ | 2, _ => exact Or.inr ⟨rfl, _, Or.inl rfl⟩ | 3, _ => exact Or.inl ⟨rfl, rfl⟩)⟩
  | 7, _, hq => cases hq; exact ⟨by decide +kernel, tyX7, tyX7_ok, nmX7, rfl, fin _ _ _ (by intro k hk; match k, hk with | 0, _ => exact Or.inl ⟨rfl, rfl⟩ | 1, _ => exact Or.inr ⟨rfl, _, Or.inl rfl⟩ | 2, _ => exact Or.inr ⟨rfl, _, Or.inl rfl⟩ | 3, _ => exact Or.inr ⟨rfl, _, Or.inl rfl⟩ | 4, _ => exact Or.inl ⟨rfl, rfl⟩)⟩
  | 8, _, hq => cases hq; exact ⟨by decide +kernel, tyX8, tyX8_ok, nmX8, rfl, fin _ _ _ (by intro k hk; match k, hk with | 0, _ => exact Or.inr ⟨rfl, .int, Or.inr ⟨_, rfl⟩⟩ | 1, _ => exact Or.inr ⟨rfl, .int, Or.inr ⟨_, rfl⟩⟩ | 2, _ => exact Or.inr ⟨rfl, .int, Or.inr ⟨_, rfl⟩⟩ | 3, _ => exact Or.inr ⟨rfl, .int, Or.inr ⟨_, rfl⟩⟩ | 4, _ => exact Or.inr ⟨rfl, .int, Or.inr ⟨_, rfl⟩⟩ | 5, _ => exact Or.inr ⟨rfl, .int, Or.inr ⟨_, rfl⟩⟩ | 6, _ => exact Or.inr ⟨rfl, .int, Or.inr ⟨_, rfl⟩⟩ | 7, _ => exact Or.inr ⟨rfl, .int, Or.inr ⟨_, rfl⟩⟩ | 8, _ => exact Or.inr ⟨rfl, .int, Or.inr ⟨_, rfl⟩⟩ | 9, _ => exact Or.inr ⟨rfl, .int, Or.inr ⟨_, rfl⟩⟩ | 10, _ => exact Or.inr ⟨rfl, .int, Or.inr ⟨_, rfl⟩⟩)⟩
  | 9, _, hq => cases hq; exact ⟨by decide +kernel, tyX9, tyX9_ok, nmX9, rfl, fin _ _ _ (by intro k hk; match k, hk with | 0, _ => exact Or.inl ⟨rfl, rfl⟩ | 1, _ => exact Or.inr ⟨rfl, _, Or.inl rfl⟩ | 2, _ => exact Or.inl ⟨rfl, rfl⟩ | 3, _ => exact Or.inr ⟨rfl, _, Or.inl rfl⟩ | 4, _ => exact Or.inr ⟨rfl, _, Or.inl rfl⟩ | 5, _ => exact Or.inl ⟨rfl, rfl⟩ | 6, _ => exact Or.inr ⟨rfl, _, Or.inl rfl⟩ | 7, _ => exact Or.inl ⟨rfl, rfl⟩ | 8, _ => exact Or.inr ⟨rfl, _, Or.inl rfl⟩ | 9, _ => exact Or.inl ⟨rfl, rfl⟩ | 10, _ => exact Or.inr ⟨rfl, _, Or.inl rfl⟩ | 11, _ => exact Or.inl ⟨rfl, rfl⟩ | 12, _ => exact Or.inr ⟨rfl, _, Or.inl rfl⟩ | 13, _ => exact Or.inr ⟨rfl, _, Or.inl rfl⟩ | 14, _ => exact Or.inl ⟨rfl, rfl⟩ | 15, _ => exact Or.inl ⟨rfl, rfl⟩ | 16, _ => exact Or.inr ⟨rfl, _, Or.inl rfl⟩ | 17, _ => exact Or.inl ⟨rfl, rfl⟩ | 18, _ => exact Or.inr ⟨rfl, _, Or.inl rfl⟩ | 19, _ => exact Or.inl ⟨rfl, rfl⟩ | 20, _ => exact Or.inr ⟨rfl, _, Or.inl rfl⟩ | 21, _ => exact Or.inr ⟨rfl, _, Or.inl rfl⟩ | 22, _ => exact Or.inl ⟨rfl, rfl⟩ | 23, _ => exact Or.inr ⟨rfl, _, Or.inl rfl⟩ | 24, _ => exact Or.inr ⟨rfl, _, Or.inl rfl⟩ | 25, _ => exact Or.inl ⟨rfl, rfl⟩ | 26, _ => exact Or.inr ⟨rfl, _, Or.inl rfl⟩ | 27, _ => exact Or.inr ⟨rfl, _, Or.inl rfl⟩ | 28, _ => exact Or.inr ⟨rfl, _, Or.inl rfl⟩ | 29, _ => exact Or.inr ⟨rfl, _, Or.inl rfl⟩ | n + 30, hk => exact absurd (show n + 30 < 30 from hk) (by omega))⟩
