/-! the class: items -/
def Ack (r : Rd) (v : Nat → Nat) (x : Int32) (n : Nat) (ok : Bool) (put : Rd) : Prop := (x = nI 116 ∧ n = 5 ∧ ok = okT r v ∧ put = addT r v) ∨ (x = nI 115 ∧ n = 2 ∧ ok = okS r v ∧ put = addS r v) ∨ (x = nI 102 ∧ n = 3 ∧ ok = okF v ∧ put = setF r v) ∨ (x = nI 98 ∧ n = 1 ∧ ok = okB v ∧ put = setB r v)
theorem x_accept {sh : Sh} {Mr : MR} {L D Q : Nat} (hG : GX sh Mr L D) (hQ : LA sh Mr Q) (h4 : 5 ≤ Q) (M : MM) (r : Rd) (hr : LdR M Q r) (v : Nat → Nat) (x : Int32) (n : Nat) (ok : Bool) (put : Rd) (hk : Ack r v x n ok put) (hv : NmX M n v) : CtI mX1_accept [.ref Q, .int x, .ref 4] sh Mr M (QAc Q M r ok put) := by
  have hps : ((#[(98, 74), (102, 60), (115, 49), (116, 43)] : Array (Int × Int)).toList.zip ((#[(98, 74), (102, 60), (115, 49), (116, 43)] : Array (Int × Int)).toList.drop 1)).all (fun (a, next) => a.1 < next.1) = true := by decide
  refine ct_of (mi := mX1_accept) (ls := [some (.ref Q), some (.int x), some (.ref 4)]) rfl rfl (Nat.le_of_ble_eq_true rfl) rfl ?_
  refine (ex_il1 dX1_accept_0 ?_)
  rcases hk with ⟨rfl, rfl, rfl, rfl⟩ | ⟨rfl, rfl, rfl, rfl⟩ | ⟨rfl, rfl, rfl, rfl⟩ | ⟨rfl, rfl, rfl, rfl⟩
  · refine ex_lookup (tgt := 44) (off := 43) dX1_accept_1 hps (by decide) rfl ?_
    refine (ex_al0 dX1_accept_44 (ex_al2 dX1_accept_45 (ex_VI1 dX1_accept_46 lkX1_53 (la_sh hQ) ⟨_, _, rfl⟩ ⟨(Nat.le_of_ble_eq_true rfl), (Nat.le_of_ble_eq_true rfl)⟩ ⟨Nat.le_refl _, Nat.le_refl _⟩ (Nat.le_of_ble_eq_true rfl) (x_addTenant hG hQ h4 M r hr v hv) (fun v46 M46 h46 => ?_))))
    have h9 := h46
    obtain ⟨rfl, q2, q3⟩ := h46
    refine (ex_rb dX1_accept_49 rfl (h9))
  · refine ex_lookup (tgt := 50) (off := 49) dX1_accept_1 hps (by decide) rfl ?_
    refine (ex_al0 dX1_accept_50 (ex_al2 dX1_accept_51 (ex_iconst (v := nI 0) dX1_accept_52 rfl (ex_ildN dX1_accept_53 (gx4 hG) (by omega) (by omega) (ex_top ((hv 0 (by omega)).1) (ex_al2 dX1_accept_54 (ex_iconst (v := nI 1) dX1_accept_55 rfl (ex_ildN dX1_accept_56 (gx4 hG) (by omega) (by omega) (ex_top ((hv 1 (by omega)).1) (ex_VI2 dX1_accept_57 lkX1_57 (la_sh hQ) ⟨_, _, rfl⟩ ⟨(Nat.le_of_ble_eq_true rfl), (Nat.le_of_ble_eq_true rfl)⟩ ⟨Nat.le_refl _, Nat.le_refl _⟩ (Nat.le_of_ble_eq_true rfl) (x_addShip hQ M r hr v (fun k hk => (hv k hk).2)) (fun v57 M57 h57 => ?_)))))))))))
    have h9 := h57
    obtain ⟨rfl, q2, q3⟩ := h57
    refine (ex_rb dX1_accept_60 rfl (h9))
  · refine ex_lookup (tgt := 61) (off := 60) dX1_accept_1 hps (by decide) rfl ?_
    refine (ex_al0 dX1_accept_61 (ex_al2 dX1_accept_62 (ex_iconst (v := nI 0) dX1_accept_63 rfl (ex_ildN dX1_accept_64 (gx4 hG) (by omega) (by omega) (ex_top ((hv 0 (by omega)).1) (ex_al2 dX1_accept_65 (ex_iconst (v := nI 1) dX1_accept_66 rfl (ex_ildN dX1_accept_67 (gx4 hG) (by omega) (by omega) (ex_top ((hv 1 (by omega)).1) (ex_al2 dX1_accept_68 (ex_iconst (v := nI 2) dX1_accept_69 rfl (ex_ildN dX1_accept_70 (gx4 hG) (by omega) (by omega) (ex_top ((hv 2 (by omega)).1) (ex_VI3 dX1_accept_71 lkX1_46 (la_sh hQ) ⟨_, _, rfl⟩ ⟨(Nat.le_of_ble_eq_true rfl), (Nat.le_of_ble_eq_true rfl)⟩ ⟨Nat.le_refl _, Nat.le_refl _⟩ (Nat.le_of_ble_eq_true rfl) (x_setFog hQ M r hr v (fun k hk => (hv k hk).2)) (fun v71 M71 h71 => ?_)))))))))))))))
    have h9 := h71
    obtain ⟨rfl, q2, q3⟩ := h71
    refine (ex_rb dX1_accept_74 rfl (h9))
  · refine ex_lookup (tgt := 75) (off := 74) dX1_accept_1 hps (by decide) rfl ?_
    refine (ex_al0 dX1_accept_75 (ex_al2 dX1_accept_76 (ex_iconst (v := nI 0) dX1_accept_77 rfl (ex_ildN dX1_accept_78 (gx4 hG) (by omega) (by omega) (ex_top ((hv 0 (by omega)).1) (ex_VI1 dX1_accept_79 lkX1_61 (la_sh hQ) ⟨_, _, rfl⟩ ⟨(Nat.le_of_ble_eq_true rfl), (Nat.le_of_ble_eq_true rfl)⟩ ⟨Nat.le_refl _, Nat.le_refl _⟩ (Nat.le_of_ble_eq_true rfl) (x_setLimit hQ M r hr v (hv 0 (by omega)).2) (fun v79 M79 h79 => ?_)))))))
    have h9 := h79
    obtain ⟨rfl, q2, q3⟩ := h79
    refine (ex_rb dX1_accept_82 rfl (h9))
def nbh (x : Int32) : Nat := if x = nI 116 then 5 else if x = nI 115 then 2 else if x = nI 102 then 3 else if x = nI 98 then 1 else 0
theorem x_numbersBehind (x : Int32) (sh : Sh) (Mr : MR) (M : MM) : CtP mX5_numbersBehind [.int x] sh Mr M (nI (nbh x)) := by
  have hps : ((#[(98, 49), (102, 47), (115, 45), (116, 43)] : Array (Int × Int)).toList.zip ((#[(98, 49), (102, 47), (115, 45), (116, 43)] : Array (Int × Int)).toList.drop 1)).all (fun (a, next) => a.1 < next.1) = true := by decide
  refine ct_of (mi := mX5_numbersBehind) (ls := [some (.int x)]) rfl rfl (Nat.le_of_ble_eq_true rfl) rfl ?_
  refine (ex_il0 dX5_numbersBehind_0 ?_)
  by_cases e1 : x = nI 116
  · subst e1
    refine ex_lookup (tgt := 44) (off := 43) dX5_numbersBehind_1 hps (by decide) rfl ?_
    refine (ex_iconst (v := nI 5) dX5_numbersBehind_44 rfl (ex_ri dX5_numbersBehind_45 rfl rfl (⟨by decide, rfl⟩)))
  · by_cases e2 : x = nI 115
    · subst e2
      refine ex_lookup (tgt := 46) (off := 45) dX5_numbersBehind_1 hps (by decide) rfl ?_
      refine (ex_iconst (v := nI 2) dX5_numbersBehind_46 rfl (ex_ri dX5_numbersBehind_47 rfl rfl (⟨by decide, rfl⟩)))
    · by_cases e3 : x = nI 102
      · subst e3
        refine ex_lookup (tgt := 48) (off := 47) dX5_numbersBehind_1 hps (by decide) rfl ?_
        refine (ex_iconst (v := nI 3) dX5_numbersBehind_48 rfl (ex_ri dX5_numbersBehind_49 rfl rfl (⟨by decide, rfl⟩)))
      · by_cases e4 : x = nI 98
        · subst e4
          refine ex_lookup (tgt := 50) (off := 49) dX5_numbersBehind_1 hps (by decide) rfl ?_
          refine (ex_iconst (v := nI 1) dX5_numbersBehind_50 rfl (ex_ri dX5_numbersBehind_51 rfl rfl (⟨by decide, rfl⟩)))
        · refine ex_lookup (tgt := 52) (off := 51) dX5_numbersBehind_1 hps ?_ rfl ?_
          · show Op.lookupswitch.offset [(98, 49), (102, 47), (115, 45), (116, 43)] 51 x.toInt = 51
            rw [lv_osw e4 (by decide), lv_osw e3 (by decide), lv_osw e2 (by decide), lv_osw e1 (by decide)]
            rfl
          · refine (ex_iconst (v := nI 0) dX5_numbersBehind_52 rfl (ex_ri dX5_numbersBehind_53 rfl rfl (⟨by unfold nbh; rw [if_neg e1, if_neg e2, if_neg e3, if_neg e4], rfl⟩)))
def QIx (Q : Nat) (M : MM) (o : Option (Rd × Nat)) : Int32 → MM → Prop := fun w M' => (∀ c, c < Q ∨ Q + 10 ≤ c → c ≠ 4 → M' c = M c) ∧ (o = none → w = -4) ∧ ∀ q, o = some q → w = nI q.2 ∧ LdR M' Q q.1
theorem LdR.of {M M' : MM} {L : Nat} {r : Rd} (h : LdR M L r) (hc : ∀ c, L ≤ c → c ≤ L + 9 → M' c = M c) : LdR M' L r := by
  refine ⟨h.1.of hc, ?_⟩
  rw [hc (L + 2) (by omega) (by omega), hc (L + 3) (by omega) (by omega)]
  exact h.2
theorem x_readItem {sh : Sh} {Mr : MR} {L D Q : Nat} (hG : GX sh Mr L D) (hQ : LA sh Mr Q) (h4 : 5 ≤ Q) (M : MM) (t : Tx) (ht : TxX M t) (r : Rd) (hr : LdR M Q r) (a : Nat) (ha : a < t.1) : CtI mX5_readItem [.ref 3, .ref 1, .int (nI a), .ref Q] sh Mr M (QIx Q M (itm t a r)) := by
  have h200 := ht.2.1
  generalize hx : ltr t a = x
  have core : ∀ (n : Nat) (ok : (Nat → Nat) → Bool) (put : (Nat → Nat) → Rd), 1 ≤ n → n ≤ 5 → (∀ v, Ack r v x n (ok v) (put v)) → EI mX5_readItem sh Mr (QIx Q M (tk (rdK t n (fun _ => 0) 0 (a + 1)) ok put)) 22 [some (.ref 3), some (.ref 1), some (.int (nI a)), some (.ref Q), some (.int x), some (.int (nI n)), none, none, none] [] M := by
    intro n ok put hn1 hn5 hack
    generalize hR : rdK t n (fun _ => 0) 0 (a + 1) = R
    have hno : ∀ M1 : MM, (∀ c, c ≠ 4 → M1 c = M c) → R = none → QIx Q M (tk R ok put) (-4) M1 := fun M1 f1 e => by subst e; exact ⟨fun c h1 h2 => f1 c h2, fun _ => rfl, fun q hq => by cases hq⟩
    refine (ex_il2 dX5_readItem_22 (ex_iconst (v := nI 1) dX5_readItem_23 rfl (ex_iaddN dX5_readItem_24 (ex_is6 dX5_readItem_25 (Nat.le_of_ble_eq_true rfl) rfl (ex_iconst (v := nI 0) dX5_readItem_27 rfl (ex_is7 dX5_readItem_28 (Nat.le_of_ble_eq_true rfl) rfl ?_))))))
    refine ex_down (I := fun j ls M' => ∃ k v a' l8, k + j = n ∧ ls = [some (.ref 3), some (.ref 1), some (.int (nI a)), some (.ref Q), some (.int x), some (.int (nI n)), some (.int (nI a')), some (.int (nI k)), l8] ∧ (∀ c, c ≠ 4 → M' c = M c) ∧ a' ≤ 1000 ∧ (∀ i, v i ≤ 99) ∧ (∀ i, i < k → M' 4 i = nI (v i)) ∧ rdK t j v k a' = R) ?_ ?_ n _ _ ⟨0, fun _ => 0, a + 1, none, by omega, rfl, fun _ _ => rfl, by omega, fun _ => Nat.zero_le _, fun i hi => by omega, hR⟩
    · intro j ls M1 h ih
      obtain ⟨k, v, a', l8, hk, rfl, f1, f2, fv, f3, f4⟩ := h
      have ht1 : TxX M1 t := ht.of (f1 1 (by omega)) (f1 2 (by omega))
      have f4' : rdK t (j + 1) v k a' = (match num1 t a' (if j = 0 then 59 else 44) with | none => none | some q => rdK t j (fun i => if i = k then q.1 else v i) (k + 1) q.2) := rfl
      rw [f4'] at f4
      have J2 : ∀ (f m : Nat), 1 ≤ f → f ≤ 2 → m ≤ 99 → fig t a' = true → (f = 1 ∨ (f = 2 ∧ fig t (a' + 1) = true)) → (if f = 1 then dgt t a' else 10 * dgt t a' + dgt t (a' + 1)) = m → num1 t a' (if j = 0 then 59 else 44) = (if ltr t (a' + f) = nI (if j = 0 then 59 else 44) then some (m, a' + f + 1) else none) → EI mX5_readItem sh Mr (QIx Q M (tk R ok put)) 65 [some (.ref 3), some (.ref 1), some (.int (nI a)), some (.ref Q), some (.int x), some (.int (nI n)), some (.int (nI a')), some (.int (nI k)), l8] [.int (nI f)] M1 := by
        intro f m hf1 hf2 hm hfig hff hmm hnum
        have K : EI mX5_readItem sh Mr (QIx Q M (tk R ok put)) 111 [some (.ref 3), some (.ref 1), some (.int (nI a)), some (.ref Q), some (.int x), some (.int (nI n)), some (.int (nI (a' + f))), some (.int (nI k)), some (.int (nI f))] [.int (nI (if j = 0 then 59 else 44)), .int (ltr t (a' + f))] (wr M1 4 k (nI m)) := by
          refine (ex_icmp_eq (tgt := 117) dX5_readItem_111 rfl (fun c111 => ?_) (fun c111 => ?_))
          · have hlt := ltr_lt (by have := sepOK j; omega) c111
            rw [if_pos c111] at hnum
            rw [hnum] at f4
            refine (ex_inc6 dX5_readItem_117 (Nat.le_of_ble_eq_true rfl) rfl (inc1 _) (ex_inc7 dX5_readItem_120 (Nat.le_of_ble_eq_true rfl) rfl (inc1 _) (ex_goto (tgt := 30) dX5_readItem_123 rfl ?_)))
            refine ih _ _ ⟨k + 1, fun i => if i = k then m else v i, a' + f + 1, some (.int (nI f)), by omega, rfl, fun c e => by rw [wr_oc e]; exact f1 c e, by omega, fun i => ?_, fun i hi => ?_, f4⟩
            · by_cases e : i = k
              · simp [e, hm]
              · simp only [if_neg e]; exact fv i
            · by_cases e : i = k
              · subst e; rw [wr_s]; simp
              · rw [wr_oi e]; simp only [if_neg e]; exact f3 i (by omega)
          · rw [if_neg c111] at hnum
            rw [hnum] at f4
            refine (ex_bipush (v := (-4)) dX5_readItem_114 rfl (ex_ri dX5_readItem_116 rfl rfl ?_))
            exact hno _ (fun c e => by rw [wr_oc e]; exact f1 c e) f4.symm
        have ht2 : TxX (wr M1 4 k (nI m)) t := ht1.of (wr_oc (by omega)) (wr_oc (by omega))
        refine (ex_is8 dX5_readItem_65 (Nat.le_of_ble_eq_true rfl) rfl (ex_al0 dX5_readItem_67 (ex_getR dX5_readItem_68 flX5_11 (gx3 hG) (gr3_0 hG) (ex_il7 dX5_readItem_71 (ex_al1 dX5_readItem_73 (ex_il6 dX5_readItem_74 (ex_il8 dX5_readItem_76 (ex_SP3 dX5_readItem_78 lkX5_41 ⟨(Nat.le_of_ble_eq_true rfl), (Nat.le_of_ble_eq_true rfl)⟩ ⟨Nat.le_refl _, Nat.le_refl _⟩ (Nat.le_of_ble_eq_true rfl) (x_numberAt hG M1 t ht1 a' f (by omega) hfig hff) (ex_top (y := nI (m)) (by rw [hmm]) (ex_istN dX5_readItem_81 (gx4 hG) (by omega) (by omega) (ex_il6 dX5_readItem_82 (ex_il8 dX5_readItem_84 (ex_iaddN dX5_readItem_86 (ex_is6 dX5_readItem_87 (Nat.le_of_ble_eq_true rfl) rfl (ex_al1 dX5_readItem_89 (ex_il6 dX5_readItem_90 (ex_VP1 dX5_readItem_92 lkX5_30 (gx1 hG) ⟨_, _, rfl⟩ ⟨(Nat.le_of_ble_eq_true rfl), (Nat.le_of_ble_eq_true rfl)⟩ ⟨Nat.le_refl _, Nat.le_refl _⟩ (Nat.le_of_ble_eq_true rfl) (x_at hG _ t ht2 (a' + f) (by omega)) (ex_il7 dX5_readItem_95 (ex_il5 dX5_readItem_97 (ex_iconst (v := nI 1) dX5_readItem_99 rfl (ex_isubN dX5_readItem_100 (by omega) (ex_icmp_neN (tgt := 109) dX5_readItem_101 rfl (by omega) (by omega) (fun c101 => ?_) (fun c101 => ?_)))))))))))))))))))))))
        · refine (ex_bipush (v := nI 44) dX5_readItem_109 rfl ?_)
          rw [show (if j = 0 then 59 else 44) = 44 by rw [if_neg (by omega)]] at K
          exact K
        · refine (ex_bipush (v := nI 59) dX5_readItem_104 rfl (ex_goto (tgt := 111) dX5_readItem_106 rfl ?_))
          rw [show (if j = 0 then 59 else 44) = 59 by rw [if_pos (by omega)]] at K
          exact K
      refine (ex_il7 dX5_readItem_30 (ex_il5 dX5_readItem_32 (ex_icmp_geN (tgt := 126) dX5_readItem_34 rfl (by omega) (by omega) (fun c34 => (absurd c34 (by omega))) (fun c34 => (ex_al1 dX5_readItem_37 (ex_il6 dX5_readItem_38 (ex_VP1 dX5_readItem_40 lkX5_37 (gx1 hG) ⟨_, _, rfl⟩ ⟨(Nat.le_of_ble_eq_true rfl), (Nat.le_of_ble_eq_true rfl)⟩ ⟨Nat.le_refl _, Nat.le_refl _⟩ (Nat.le_of_ble_eq_true rfl) (x_isFigure hG M1 t ht1 a' (by omega)) (ex_ifB_ne (tgt := 49) dX5_readItem_43 rfl (fun c43 => ?_) (fun c43 => ?_)))))))))
      · have d0 := fig_val c43
        refine (ex_al1 dX5_readItem_49 (ex_il6 dX5_readItem_50 (ex_iconst (v := nI 1) dX5_readItem_52 rfl (ex_iaddN dX5_readItem_53 (ex_VP1 dX5_readItem_54 lkX5_37 (gx1 hG) ⟨_, _, rfl⟩ ⟨(Nat.le_of_ble_eq_true rfl), (Nat.le_of_ble_eq_true rfl)⟩ ⟨Nat.le_refl _, Nat.le_refl _⟩ (Nat.le_of_ble_eq_true rfl) (x_isFigure hG M1 t ht1 (a' + 1) (by omega)) (ex_ifB_eq (tgt := 64) dX5_readItem_57 rfl (fun c57 => ?_) (fun c57 => ?_)))))))
        · refine (ex_iconst (v := nI 1) dX5_readItem_64 rfl ?_)
          exact J2 1 _ (by omega) (by omega) (by omega) c43 (Or.inl rfl) (if_pos rfl) (by unfold num1; rw [c43, c57]; rfl)
        · have d1 := fig_val c57
          refine (ex_iconst (v := nI 2) dX5_readItem_60 rfl (ex_goto (tgt := 65) dX5_readItem_61 rfl ?_))
          exact J2 2 _ (by omega) (by omega) (by omega) c43 (Or.inr ⟨rfl, c57⟩) (if_neg (by omega)) (by unfold num1; rw [c43, c57]; rfl)
      · have hn0 : num1 t a' (if j = 0 then 59 else 44) = none := by unfold num1; rw [c43]; rfl
        rw [hn0] at f4
        refine (ex_bipush (v := (-4)) dX5_readItem_46 rfl (ex_ri dX5_readItem_48 rfl rfl ?_))
        exact hno _ f1 f4.symm
    · intro ls M1 h
      obtain ⟨k, v, a', l8, hk, rfl, f1, f2, fv, f3, f4⟩ := h
      have f4' : rdK t 0 v k a' = some (v, a') := rfl
      rw [f4'] at f4
      have hr1 : LdR M1 Q r := hr.of (fun c e1 e2 => f1 c (by omega))
      refine (ex_il7 dX5_readItem_30 (ex_il5 dX5_readItem_32 (ex_icmp_geN (tgt := 126) dX5_readItem_34 rfl (by omega) (by omega) (fun c34 => (ex_al3 dX5_readItem_126 (ex_il4 dX5_readItem_127 (ex_al0 dX5_readItem_129 (ex_getR dX5_readItem_130 flX5_11 (gx3 hG) (gr3_0 hG) (ex_VI2 dX5_readItem_133 lkX5_45 (la_sh hQ) ⟨_, _, rfl⟩ ⟨(Nat.le_of_ble_eq_true rfl), (Nat.le_of_ble_eq_true rfl)⟩ ⟨Nat.le_refl _, Nat.le_refl _⟩ (Nat.le_of_ble_eq_true rfl) (x_accept hG hQ h4 M1 r hr1 v x n _ _ (hack v) (fun i hi => ⟨f3 i (by omega), fv i⟩)) (fun v133 M133 h133 => ?_))))))) (fun c34 => (absurd (by omega) c34)))))
      obtain ⟨rfl, q2, q3⟩ := h133
      have q1 : ∀ c, c < Q ∨ Q + 10 ≤ c → c ≠ 4 → M133 c = M c := fun c e1 e2 => (q2 c e1).trans (f1 c e2)
      refine (ex_ifB_eq (tgt := 144) dX5_readItem_136 rfl (fun c136 => ?_) (fun c136 => ?_))
      · have e : tk R ok put = none := by rw [← f4]; unfold tk; simp only [c136]; rfl
        rw [e]
        refine (ex_bipush (v := (-4)) dX5_readItem_144 rfl (ex_ri dX5_readItem_146 rfl rfl (⟨q1, fun _ => rfl, fun q hq => by cases hq⟩)))
      · have e : tk R ok put = some (put v, a') := by rw [← f4]; unfold tk; simp only [c136]; rfl
        rw [c136, if_pos rfl] at q3
        rw [e]
        refine (ex_il6 dX5_readItem_139 (ex_goto (tgt := 146) dX5_readItem_141 rfl (ex_ri dX5_readItem_146 rfl rfl (⟨q1, fun h => (by cases h), fun q hq => by cases hq; exact ⟨rfl, q3⟩⟩))))
  refine ct_of (mi := mX5_readItem) (ls := [some (.ref 3), some (.ref 1), some (.int (nI a)), some (.ref Q), none, none, none, none, none]) rfl rfl (Nat.le_of_ble_eq_true rfl) rfl ?_
  have hat := x_at hG M t ht a (by omega)
  rw [hx] at hat
  refine (ex_al1 dX5_readItem_0 (ex_il2 dX5_readItem_1 (ex_VP1 dX5_readItem_2 lkX5_30 (gx1 hG) ⟨_, _, rfl⟩ ⟨(Nat.le_of_ble_eq_true rfl), (Nat.le_of_ble_eq_true rfl)⟩ ⟨Nat.le_refl _, Nat.le_refl _⟩ (Nat.le_of_ble_eq_true rfl) (hat) (ex_is4 dX5_readItem_5 (Nat.le_of_ble_eq_true rfl) rfl (ex_il4 dX5_readItem_7 (ex_SP1 dX5_readItem_9 lkX5_34 ⟨(Nat.le_of_ble_eq_true rfl), (Nat.le_of_ble_eq_true rfl)⟩ ⟨Nat.le_refl _, Nat.le_refl _⟩ (Nat.le_of_ble_eq_true rfl) (x_numbersBehind _ _ _ _) (ex_is5 dX5_readItem_12 (Nat.le_of_ble_eq_true rfl) rfl (ex_il5 dX5_readItem_14 ?_))))))))
  unfold itm
  rw [hx]
  by_cases e1 : x = nI 116
  · rw [if_pos e1, show nbh x = 5 by rw [e1]; decide]
    refine (ex_if_neN (tgt := 22) dX5_readItem_16 rfl (by omega) (fun c16 => ?_) (fun c16 => (absurd c16 (by omega))))
    exact core 5 (okT r) (addT r) (by omega) (by omega) (fun v => Or.inl ⟨e1, rfl, rfl, rfl⟩)
  · by_cases e2 : x = nI 115
    · rw [if_neg e1, if_pos e2, show nbh x = 2 by rw [e2]; decide]
      refine (ex_if_neN (tgt := 22) dX5_readItem_16 rfl (by omega) (fun c16 => ?_) (fun c16 => (absurd c16 (by omega))))
      exact core 2 (okS r) (addS r) (by omega) (by omega) (fun v => Or.inr (Or.inl ⟨e2, rfl, rfl, rfl⟩))
    · by_cases e3 : x = nI 102
      · rw [if_neg e1, if_neg e2, if_pos e3, show nbh x = 3 by rw [e3]; decide]
        refine (ex_if_neN (tgt := 22) dX5_readItem_16 rfl (by omega) (fun c16 => ?_) (fun c16 => (absurd c16 (by omega))))
        exact core 3 okF (setF r) (by omega) (by omega) (fun v => Or.inr (Or.inr (Or.inl ⟨e3, rfl, rfl, rfl⟩)))
      · by_cases e4 : x = nI 98
        · rw [if_neg e1, if_neg e2, if_neg e3, if_pos e4, show nbh x = 1 by rw [e4]; decide]
          refine (ex_if_neN (tgt := 22) dX5_readItem_16 rfl (by omega) (fun c16 => ?_) (fun c16 => (absurd c16 (by omega))))
          exact core 1 okB (setB r) (by omega) (by omega) (fun v => Or.inr (Or.inr (Or.inr ⟨e4, rfl, rfl, rfl⟩)))
        · rw [if_neg e1, if_neg e2, if_neg e3, if_neg e4, show nbh x = 0 by unfold nbh; rw [if_neg e1, if_neg e2, if_neg e3, if_neg e4]]
          refine (ex_if_neN (tgt := 22) dX5_readItem_16 rfl (by omega) (fun c16 => (absurd rfl c16)) (fun c16 => (ex_bipush (v := (-4)) dX5_readItem_19 rfl (ex_ri dX5_readItem_21 rfl rfl (⟨fun _ _ _ => rfl, fun _ => rfl, fun q hq => by cases hq⟩)))))
theorem x_readAll {sh : Sh} {Mr : MR} {L D Q : Nat} (hG : GX sh Mr L D) (hQ : LA sh Mr Q) (h4 : 5 ≤ Q) (M : MM) (t : Tx) (ht : TxX M t) : CtI mX5_readAll [.ref 3, .ref 1, .ref Q] sh Mr M (fun w M' => (∀ c, c < Q ∨ Q + 10 ≤ c → c ≠ 4 → M' c = M c) ∧ w = (prs t 200 0 rd0).1 ∧ (w = -4 → LdR M' Q (prs t 200 0 rd0).2)) := by
  have h200 := ht.2.1
  generalize hR : prs t 200 0 rd0 = R
  refine ct_of (mi := mX5_readAll) (ls := [some (.ref 3), some (.ref 1), some (.ref Q), none, none, none]) rfl rfl (Nat.le_of_ble_eq_true rfl) rfl ?_
  refine (ex_al2 dX5_readAll_0 (ex_VV0 dX5_readAll_1 lkX5_15 (la_sh hQ) ⟨_, _, rfl⟩ ⟨(Nat.le_of_ble_eq_true rfl), (Nat.le_of_ble_eq_true rfl)⟩ ⟨Nat.le_refl _, Nat.le_refl _⟩ (Nat.le_of_ble_eq_true rfl) (x_clear hQ _) (fun M1 h1 => ?_)))
  obtain ⟨k1, k2⟩ := h1
  refine (ex_iconst (v := nI 0) dX5_readAll_4 rfl (ex_is3 dX5_readAll_5 (Nat.le_of_ble_eq_true rfl) rfl (ex_iconst (v := nI 0) dX5_readAll_6 rfl (ex_is4 dX5_readAll_7 (Nat.le_of_ble_eq_true rfl) rfl ?_))))
  refine ex_down (I := fun j ls M' => ∃ k a r l5, k + j = 200 ∧ ls = [some (.ref 3), some (.ref 1), some (.ref Q), some (.int (nI a)), some (.int (nI k)), l5] ∧ (∀ c, c < Q ∨ Q + 10 ≤ c → c ≠ 4 → M' c = M c) ∧ a ≤ 200 ∧ LdR M' Q r ∧ prs t j a r = R) ?_ ?_ 200 _ _ ⟨0, 0, rd0, none, by omega, rfl, fun c e _ => k1 c e, by omega, k2, hR⟩
  · intro j ls M2 h ih
    obtain ⟨k, a, r, l5, hk, rfl, f1, f2, f3, f4⟩ := h
    have ht2 : TxX M2 t := ht.of (f1 1 (by omega) (by omega)) (f1 2 (by omega) (by omega))
    unfold prs at f4
    refine (ex_il4 dX5_readAll_9 (ex_sipush (v := nI 200) dX5_readAll_11 rfl (ex_icmp_geN (tgt := 52) dX5_readAll_14 rfl (by omega) (by omega) (fun c14 => (absurd c14 (by omega))) (fun c14 => (ex_il3 dX5_readAll_17 (ex_al1 dX5_readAll_18 (ex_getI dX5_readAll_19 flX5_20 (gx1 hG) (ex_top (ht2.1) (ex_icmp_geN (tgt := 52) dX5_readAll_22 rfl (by omega) (by omega) (fun c22 => ?_) (fun c22 => ?_))))))))))
    · rw [if_neg (by omega)] at f4
      refine (ex_bipush (v := (-4)) dX5_readAll_52 rfl (ex_ri dX5_readAll_54 rfl rfl (⟨f1, by rw [← f4], fun _ => by rw [← f4]; exact f3⟩)))
    · rw [if_pos (by omega)] at f4
      refine (ex_al0 dX5_readAll_25 (ex_al1 dX5_readAll_26 (ex_il3 dX5_readAll_27 (ex_al2 dX5_readAll_28 (ex_VI3 dX5_readAll_29 lkX5_26 (gx3 hG) ⟨_, _, rfl⟩ ⟨(Nat.le_of_ble_eq_true rfl), (Nat.le_of_ble_eq_true rfl)⟩ ⟨Nat.le_refl _, Nat.le_refl _⟩ (Nat.le_of_ble_eq_true rfl) (x_readItem hG hQ h4 M2 t ht2 r f3 a (by omega)) (fun v29 M29 h29 => ?_))))))
      obtain ⟨g1, g2, g3⟩ := h29
      have g1' : ∀ c, c < Q ∨ Q + 10 ≤ c → c ≠ 4 → M29 c = M c := fun c e1 e2 => (g1 c e1 e2).trans (f1 c e1 e2)
      cases hi : itm t a r with
      | none =>
        rw [hi] at f4
        have := g2 hi
        subst this
        refine (ex_is5 dX5_readAll_32 (Nat.le_of_ble_eq_true rfl) rfl (ex_il5 dX5_readAll_34 (ex_bipush (v := (-4)) dX5_readAll_36 rfl (ex_icmp_ne (tgt := 43) dX5_readAll_38 rfl (fun c38 => (absurd rfl c38)) (fun c38 => (ex_il3 dX5_readAll_41 (ex_ri dX5_readAll_42 rfl rfl ?_)))))))
        refine ⟨g1', by rw [← f4], fun h => ?_⟩
        exfalso
        have h3 := congrArg Int32.toInt h
        rw [nI_toInt (by omega)] at h3
        have h4 : (-4 : Int32).toInt = -4 := by decide
        omega
      | some q =>
        rw [hi] at f4
        obtain ⟨rfl, g4⟩ := g3 q hi
        have hq := itm_lt hi
        refine (ex_is5 dX5_readAll_32 (Nat.le_of_ble_eq_true rfl) rfl (ex_il5 dX5_readAll_34 (ex_bipush (v := (-4)) dX5_readAll_36 rfl (ex_icmp_ne (tgt := 43) dX5_readAll_38 rfl (fun c38 => ?_) (fun c38 => ?_)))))
        · refine (ex_il5 dX5_readAll_43 (ex_is3 dX5_readAll_45 (Nat.le_of_ble_eq_true rfl) rfl (ex_inc4 dX5_readAll_46 (Nat.le_of_ble_eq_true rfl) rfl (inc1 _) (ex_goto (tgt := 9) dX5_readAll_49 rfl ?_))))
          exact ih _ _ ⟨k + 1, q.2, q.1, some (.int (nI q.2)), by omega, rfl, g1', by omega, g4, f4⟩
        · exfalso
          have h3 := congrArg Int32.toInt c38
          rw [nI_toInt (by omega)] at h3
          have h4 : (-4 : Int32).toInt = -4 := by decide
          omega
  · intro ls M2 h
    obtain ⟨k, a, r, l5, hk, rfl, f1, f2, f3, f4⟩ := h
    unfold prs at f4
    refine (ex_il4 dX5_readAll_9 (ex_sipush (v := nI 200) dX5_readAll_11 rfl (ex_icmp_geN (tgt := 52) dX5_readAll_14 rfl (by omega) (by omega) (fun c14 => (ex_bipush (v := (-4)) dX5_readAll_52 rfl (ex_ri dX5_readAll_54 rfl rfl (⟨f1, by rw [← f4], fun _ => by rw [← f4]; exact f3⟩)))) (fun c14 => (absurd (by omega) c14)))))
