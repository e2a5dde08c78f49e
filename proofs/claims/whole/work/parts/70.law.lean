/-! the law: its rules, its calls -/
abbrev mLw (nm : String) : MI := (⟨RL, nm, "([I)Z"⟩, cL_law, 4, ret, 0, 0)
/-- the script at bb.2 -/
def XL (L : Nat) (xs : Nat → Int32) : XT := fun bb s => va_X bb.2 L xs s s.heap ∧ bb.2 < s.heap.size ∧ bb.2 < bb.1 ∧ XS bb s
def ZL : GE → Nat × Nat → List Frame → Array Value → State → State → Prop := fun _ _ below args s => lw_Z below args s
theorem xm_LS {L : Nat} {xs : Nat → Int32} : XMove (XL L xs) XS := ⟨fun _ _ _ hh hv ⟨a, b, h⟩ => ⟨a, b, h.same hh hv⟩, fun _ _ _ _ _ ⟨_, _, _, a, b, h⟩ hS hU hW => ⟨a, b, h.go hS hU hW⟩⟩
section EXL
variable {mi : MI} {R : Room} {Z : GE → Nat × Nat → List Frame → Array Value → State → State → Prop} {L : Nat} {xs : Nat → Int32} {kc ks pc : Nat} {ls : List (Option AV)} {st : List AV} {sh : Sh} {Mr : MR} {M : MM}
theorem ex_slenL {x : UInt32} (d : decode mi.2.1 pc = .ok (.arraylength, 1)) (k : Ex mi R Z (XL L xs) kc ks (pc + 1) ls (.int (nI L) :: st) sh Mr M) : Ex mi R Z (XL L xs) kc ks pc ls (.float x :: st) sh Mr M := by
  intro l E bb p e s m args below meth c F H locs lsA hP hS hl hk
  obtain ⟨hX, hbl, hb1, -⟩ := F.2.2.2.2.2.2.2.2.2.2.2.2
  exact va_slen F.1 F.2.1 hX hbl (Nat.not_le.mpr hb1) hS d (k l E bb p e s m args below meth c F H locs lsA hP hS hl hk)
theorem ex_sldL {x : UInt32} {i : Nat} (hi : i < L) (hL : L ≤ 320) (d : decode mi.2.1 pc = .ok (.iaload, 1)) (k : Ex mi R Z (XL L xs) kc ks (pc + 1) ls (.int (xs i) :: st) sh Mr M) : Ex mi R Z (XL L xs) kc ks pc ls (.int (nI i) :: .float x :: st) sh Mr M := by
  intro l E bb p e s m args below meth c F H locs lsA hP hS hl hk
  obtain ⟨hX, hbl, hb1, -⟩ := F.2.2.2.2.2.2.2.2.2.2.2.2
  refine va_sld F.1 F.2.1 hX hbl (Nat.not_le.mpr hb1) hS (vp_in_nI hi (by omega)) d ?_
  rw [nI_clamp (by omega)]
  exact k l E bb p e s m args below meth c F H locs lsA hP hS hl hk
end EXL
theorem lw_retA {p : Program} {l : Launch} {e : Env} {s : State} {m : MethodId} {args : Array Value} {below : List Frame} {meth : Method} {c : Code} (hx : p.tables.exec = Jvm.exec) (hb : c.code = code) (hr : meth.sig.returnType = ret) (hlocks : meth.locks = false) {pc : Nat} {H : Heap} {ls : Array Slot} (hdg : decode code pc = .ok (.ireturn, 1)) : W p l e room_1 s m args below meth c H [] 600000 7302250 (lw_Z below args s) (F0 m pc ls [.int 1]) := by
  intro T hT X
  obtain ⟨fs, hret, hrun, hended, hW, hframe⟩ := X.leave (v := some (.int 1)) (hlocks := hlocks) (fun h => by rw [hr] at h; cases h)
  have hmeth' : T.vm.method? m = some meth := X.method'
  refine ⟨T.setFrames fs, ?_, .returned (some (.int 1)), hrun, hended, rfl, ⟨_, rfl⟩, hW, hframe⟩
  jvm_step X.here [X.here.top, hx, hb, hdg, hmeth', hr, ret, narrow_b1]
  (try refine ⟨rfl, ?_⟩); (try refine ⟨rfl, ?_⟩)
  first | (intro acts; rw [hret _ acts rfl rfl rfl]) | rw [hret _ _ rfl rfl rfl]
  exact Steps.refl _
/-- the law's end: the base is the start's own end -/
def XE (L : Nat) (xs : Nat → Int32) : XT := fun bb s => XL L xs bb s ∧ bb.1 = s.heap.size
/-- class and reference hold the same -/
def LI (Mr : MR) (M : MM) : Prop := ∃ Lc D g, GX SHM Mr Lc D ∧ MD SHM Mr 94 ∧ RX M Lc g ∧ RM 94 M g ∧ sgV g
abbrev EL (nm : String) (L : Nat) (xs : Nat → Int32) (pc i : Nat) (st : List AV) (Mr : MR) (M : MM) : Prop := Ex (mLw nm) room_1 ZL (XL L xs) 113 1365 pc [some (.float 0), some (.ref 0), some (.ref 94), some (.int (nI i))] st SHM Mr M
theorem rm_keep {M M1 : MM} {g : Sg} (h : RM 94 M g) (u : ∀ c, 94 ≤ c → M1 c = M c) : RM 94 M1 g := h.of (fun k _ => by rw [u 94 (Nat.le_refl _)]) (fun c h1 _ => u c (by omega))
theorem rx_keep {sh : Sh} {Mr : MR} {Lc D : Nat} {M M1 : MM} {g : Sg} (hG : GX sh Mr Lc D) (h : RX M Lc g) (u : ∀ c, c < 94 → M1 c = M c) : RX M1 Lc g := h.of (fun c hc => u c (by have := GL hG; omega))
theorem md_keep {sh : Sh} {Mr Mr' : MR} {B : Nat} (h : MD sh Mr B) (e : Mr' B = Mr B) : MD sh Mr' B := by
  unfold MD
  rw [e]
  exact h
theorem law_write {nm : String} {L : Nat} {xs : Nat → Int32} {i Lc D : Nat} {Mr : MR} {M : MM} {g : Sg} (hL : L ≤ 320) (hi : i + 5 ≤ L) (hG : GX SHM Mr Lc D) (hB : MD SHM Mr 94) (hx : RX M Lc g) (hm : RM 94 M g) (hv : sgV g) (ih : ∀ Mr M, LI Mr M → EL nm L xs 945 i [] Mr M) : EL nm L xs 172 i [] Mr M := by
  refine (ex_al1 dL_law_172 (ex_alF0 dL_law_173 (ex_il3 dL_law_174 (ex_iconst (v := nI 1) dL_law_175 rfl (ex_iaddN dL_law_176 (ex_sldL (by omega) hL dL_law_177 (ex_VI1 dL_law_178 lkL_13 (gx0 hG) ⟨_, _, rfl⟩ ⟨(Nat.le_of_ble_eq_true rfl), (Nat.le_of_ble_eq_true rfl)⟩ ⟨(Nat.le_of_ble_eq_true rfl), (Nat.le_of_ble_eq_true rfl)⟩ (Nat.le_of_ble_eq_true rfl) (s_write hG M g hx hv (xs (i + 1))) (fun v1 M1 h1 => ?_))))))))
  obtain ⟨rfl, x1, u1⟩ := h1
  have hm1 := rm_keep hm u1
  refine (ex_al2 dL_law_181 (ex_alF0 dL_law_182 (ex_il3 dL_law_183 (ex_iconst (v := nI 1) dL_law_184 rfl (ex_iaddN dL_law_185 (ex_sldL (by omega) hL dL_law_186 (ex_VI1 dL_law_187 lkL_17 (md_sh hB) ⟨_, _, rfl⟩ ⟨(Nat.le_of_ble_eq_true rfl), (Nat.le_of_ble_eq_true rfl)⟩ ⟨(Nat.le_of_ble_eq_true rfl), (Nat.le_of_ble_eq_true rfl)⟩ (Nat.le_of_ble_eq_true rfl) (r_write hB M1 g hm1 hv (xs (i + 1))) (fun v2 M2 h2 => ?_))))))))
  obtain ⟨rfl, m2, u2⟩ := h2
  exact ex_icmp_eq (tgt := 945) dL_law_190 rfl (fun _ => ih _ _ ⟨Lc, D, _, hG, hB, rx_keep hG x1 u2, m2, v_write hv _⟩) (fun h => absurd rfl h)
theorem law_wipe {nm : String} {L : Nat} {xs : Nat → Int32} {i Lc D : Nat} {Mr : MR} {M : MM} {g : Sg} (hL : L ≤ 320) (hi : i + 5 ≤ L) (hG : GX SHM Mr Lc D) (hB : MD SHM Mr 94) (hx : RX M Lc g) (hm : RM 94 M g) (hv : sgV g) (ih : ∀ Mr M, LI Mr M → EL nm L xs 945 i [] Mr M) : EL nm L xs 195 i [] Mr M := by
  refine (ex_al1 dL_law_195 (ex_VI0 dL_law_196 lkL_18 (gx0 hG) ⟨_, _, rfl⟩ ⟨(Nat.le_of_ble_eq_true rfl), (Nat.le_of_ble_eq_true rfl)⟩ ⟨(Nat.le_of_ble_eq_true rfl), (Nat.le_of_ble_eq_true rfl)⟩ (Nat.le_of_ble_eq_true rfl) (s_wipe hG M g hx) (fun v1 M1 h1 => ?_)))
  obtain ⟨rfl, x1, u1⟩ := h1
  have hm1 := rm_keep hm u1
  refine (ex_al2 dL_law_199 (ex_VI0 dL_law_200 lkL_22 (md_sh hB) ⟨_, _, rfl⟩ ⟨(Nat.le_of_ble_eq_true rfl), (Nat.le_of_ble_eq_true rfl)⟩ ⟨(Nat.le_of_ble_eq_true rfl), (Nat.le_of_ble_eq_true rfl)⟩ (Nat.le_of_ble_eq_true rfl) (r_wipe hB M1 g hm1) (fun v2 M2 h2 => ?_)))
  obtain ⟨rfl, m2, u2⟩ := h2
  exact ex_icmp_eq (tgt := 945) dL_law_203 rfl (fun _ => ih _ _ ⟨Lc, D, _, hG, hB, rx_keep hG x1 u2, m2, v_wipe hv⟩) (fun h => absurd rfl h)
theorem law_fault {nm : String} {L : Nat} {xs : Nat → Int32} {i Lc D : Nat} {Mr : MR} {M : MM} {g : Sg} (hL : L ≤ 320) (hi : i + 5 ≤ L) (hG : GX SHM Mr Lc D) (hB : MD SHM Mr 94) (hx : RX M Lc g) (hm : RM 94 M g) (hv : sgV g) (ih : ∀ Mr M, LI Mr M → EL nm L xs 945 i [] Mr M) : EL nm L xs 208 i [] Mr M := by
  refine (ex_al1 dL_law_208 (ex_VI0 dL_law_209 lkL_23 (gx0 hG) ⟨_, _, rfl⟩ ⟨(Nat.le_of_ble_eq_true rfl), (Nat.le_of_ble_eq_true rfl)⟩ ⟨(Nat.le_of_ble_eq_true rfl), (Nat.le_of_ble_eq_true rfl)⟩ (Nat.le_of_ble_eq_true rfl) (s_fault hG M g hx) (fun v1 M1 h1 => ?_)))
  obtain ⟨rfl, x1, u1⟩ := h1
  have hm1 := rm_keep hm u1
  refine (ex_al2 dL_law_212 (ex_VI0 dL_law_213 lkL_26 (md_sh hB) ⟨_, _, rfl⟩ ⟨(Nat.le_of_ble_eq_true rfl), (Nat.le_of_ble_eq_true rfl)⟩ ⟨(Nat.le_of_ble_eq_true rfl), (Nat.le_of_ble_eq_true rfl)⟩ (Nat.le_of_ble_eq_true rfl) (r_fault hB M1 g hm1 hv) (fun v2 M2 h2 => ?_)))
  obtain ⟨rfl, m2, u2⟩ := h2.1
  exact ex_icmp_eq (tgt := 945) dL_law_216 rfl (fun _ => ih _ _ ⟨Lc, D, _, hG, hB, rx_keep hG x1 u2, m2, hv⟩) (fun h => absurd rfl h)
theorem law_lay {nm : String} {L : Nat} {xs : Nat → Int32} {i Lc D : Nat} {Mr : MR} {M : MM} {g : Sg} (hL : L ≤ 320) (hi : i + 5 ≤ L) (hG : GX SHM Mr Lc D) (hB : MD SHM Mr 94) (hx : RX M Lc g) (hm : RM 94 M g) (hv : sgV g) (ih : ∀ Mr M, LI Mr M → EL nm L xs 945 i [] Mr M) : EL nm L xs 221 i [] Mr M := by
  refine (ex_al1 dL_law_221 (ex_callV (As := []) (rest := []) dL_law_222 lkL_27 (gx0 hG) ⟨_, _, rfl⟩ xm_tr (s_lay hG M g hx) rfl rfl (Nat.le_of_ble_eq_true rfl) ⟨(Nat.le_of_ble_eq_true rfl), (Nat.le_of_ble_eq_true rfl)⟩ ⟨(Nat.le_of_ble_eq_true rfl), (Nat.le_of_ble_eq_true rfl)⟩ (fun r sh1 Mr1 M1 h1 => ?_)))
  obtain ⟨rfl, rfl, e1, ⟨Lc1, D1, hG1, x1⟩, u1⟩ := h1
  have hB1 := md_keep hB (e1 94 (by decide))
  have hm1 := rm_keep hm u1
  refine (ex_al2 dL_law_225 (ex_VI0 dL_law_226 lkL_30 (md_sh hB1) ⟨_, _, rfl⟩ ⟨(Nat.le_of_ble_eq_true rfl), (Nat.le_of_ble_eq_true rfl)⟩ ⟨(Nat.le_of_ble_eq_true rfl), (Nat.le_of_ble_eq_true rfl)⟩ (Nat.le_of_ble_eq_true rfl) (r_lay hB1 M1 g hm1 hv) (fun v2 M2 h2 => ?_)))
  obtain ⟨rfl, m2, u2⟩ := h2
  exact ex_icmp_eq (tgt := 945) dL_law_229 rfl (fun _ => ih _ _ ⟨Lc1, D1, _, hG1, hB1, rx_keep hG1 x1 u2, m2, v_lay hv⟩) (fun h => absurd rfl h)
theorem law_tenant {nm : String} {L : Nat} {xs : Nat → Int32} {i Lc D : Nat} {Mr : MR} {M : MM} {g : Sg} (hL : L ≤ 320) (hi : i + 5 ≤ L) (hG : GX SHM Mr Lc D) (hB : MD SHM Mr 94) (hx : RX M Lc g) (hm : RM 94 M g) (hv : sgV g) (ih : ∀ Mr M, LI Mr M → EL nm L xs 945 i [] Mr M) : EL nm L xs 234 i [] Mr M := by
  refine (ex_al1 dL_law_234 (ex_alF0 dL_law_235 (ex_il3 dL_law_236 (ex_iconst (v := nI 1) dL_law_237 rfl (ex_iaddN dL_law_238 (ex_sldL (by omega) hL dL_law_239 (ex_alF0 dL_law_240 (ex_il3 dL_law_241 (ex_iconst (v := nI 2) dL_law_242 rfl (ex_iaddN dL_law_243 (ex_sldL (by omega) hL dL_law_244 (ex_VI2 dL_law_245 lkL_31 (gx0 hG) ⟨_, _, rfl⟩ ⟨(Nat.le_of_ble_eq_true rfl), (Nat.le_of_ble_eq_true rfl)⟩ ⟨(Nat.le_of_ble_eq_true rfl), (Nat.le_of_ble_eq_true rfl)⟩ (Nat.le_of_ble_eq_true rfl) (s_tenant hG M g hx hv (xs (i + 1)) (xs (i + 2))) (fun v1 M1 h1 => ?_)))))))))))))
  obtain ⟨rfl, x1, u1⟩ := h1
  have hm1 := rm_keep hm u1
  refine (ex_al2 dL_law_248 (ex_alF0 dL_law_249 (ex_il3 dL_law_250 (ex_iconst (v := nI 1) dL_law_251 rfl (ex_iaddN dL_law_252 (ex_sldL (by omega) hL dL_law_253 (ex_alF0 dL_law_254 (ex_il3 dL_law_255 (ex_iconst (v := nI 2) dL_law_256 rfl (ex_iaddN dL_law_257 (ex_sldL (by omega) hL dL_law_258 (ex_VI2 dL_law_259 lkL_35 (md_sh hB) ⟨_, _, rfl⟩ ⟨(Nat.le_of_ble_eq_true rfl), (Nat.le_of_ble_eq_true rfl)⟩ ⟨(Nat.le_of_ble_eq_true rfl), (Nat.le_of_ble_eq_true rfl)⟩ (Nat.le_of_ble_eq_true rfl) (r_tenant hB M1 g hm1 hv (xs (i + 1)) (xs (i + 2))) (fun v2 M2 h2 => ?_)))))))))))))
  obtain ⟨rfl, m2, u2⟩ := h2
  exact ex_icmp_eq (tgt := 945) dL_law_262 rfl (fun _ => ih _ _ ⟨Lc, D, _, hG, hB, rx_keep hG x1 u2, m2, hv⟩) (fun h => absurd rfl h)
theorem law_ship {nm : String} {L : Nat} {xs : Nat → Int32} {i Lc D : Nat} {Mr : MR} {M : MM} {g : Sg} (hL : L ≤ 320) (hi : i + 5 ≤ L) (hG : GX SHM Mr Lc D) (hB : MD SHM Mr 94) (hx : RX M Lc g) (hm : RM 94 M g) (hv : sgV g) (ih : ∀ Mr M, LI Mr M → EL nm L xs 945 i [] Mr M) : EL nm L xs 267 i [] Mr M := by
  refine (ex_al1 dL_law_267 (ex_alF0 dL_law_268 (ex_il3 dL_law_269 (ex_iconst (v := nI 1) dL_law_270 rfl (ex_iaddN dL_law_271 (ex_sldL (by omega) hL dL_law_272 (ex_alF0 dL_law_273 (ex_il3 dL_law_274 (ex_iconst (v := nI 2) dL_law_275 rfl (ex_iaddN dL_law_276 (ex_sldL (by omega) hL dL_law_277 (ex_VI2 dL_law_278 lkL_36 (gx0 hG) ⟨_, _, rfl⟩ ⟨(Nat.le_of_ble_eq_true rfl), (Nat.le_of_ble_eq_true rfl)⟩ ⟨(Nat.le_of_ble_eq_true rfl), (Nat.le_of_ble_eq_true rfl)⟩ (Nat.le_of_ble_eq_true rfl) (s_ship hG M g hx hv (xs (i + 1)) (xs (i + 2))) (fun v1 M1 h1 => ?_)))))))))))))
  obtain ⟨rfl, x1, u1⟩ := h1
  have hm1 := rm_keep hm u1
  refine (ex_al2 dL_law_281 (ex_alF0 dL_law_282 (ex_il3 dL_law_283 (ex_iconst (v := nI 1) dL_law_284 rfl (ex_iaddN dL_law_285 (ex_sldL (by omega) hL dL_law_286 (ex_alF0 dL_law_287 (ex_il3 dL_law_288 (ex_iconst (v := nI 2) dL_law_289 rfl (ex_iaddN dL_law_290 (ex_sldL (by omega) hL dL_law_291 (ex_VI2 dL_law_292 lkL_39 (md_sh hB) ⟨_, _, rfl⟩ ⟨(Nat.le_of_ble_eq_true rfl), (Nat.le_of_ble_eq_true rfl)⟩ ⟨(Nat.le_of_ble_eq_true rfl), (Nat.le_of_ble_eq_true rfl)⟩ (Nat.le_of_ble_eq_true rfl) (r_ship hB M1 g hm1 hv (xs (i + 1)) (xs (i + 2))) (fun v2 M2 h2 => ?_)))))))))))))
  obtain ⟨rfl, m2, u2⟩ := h2
  exact ex_icmp_eq (tgt := 945) dL_law_295 rfl (fun _ => ih _ _ ⟨Lc, D, _, hG, hB, rx_keep hG x1 u2, m2, hv⟩) (fun h => absurd rfl h)
theorem law_stripe {nm : String} {L : Nat} {xs : Nat → Int32} {i Lc D : Nat} {Mr : MR} {M : MM} {g : Sg} (hL : L ≤ 320) (hi : i + 5 ≤ L) (hG : GX SHM Mr Lc D) (hB : MD SHM Mr 94) (hx : RX M Lc g) (hm : RM 94 M g) (hv : sgV g) (ih : ∀ Mr M, LI Mr M → EL nm L xs 945 i [] Mr M) : EL nm L xs 300 i [] Mr M := by
  refine (ex_al1 dL_law_300 (ex_alF0 dL_law_301 (ex_il3 dL_law_302 (ex_iconst (v := nI 1) dL_law_303 rfl (ex_iaddN dL_law_304 (ex_sldL (by omega) hL dL_law_305 (ex_alF0 dL_law_306 (ex_il3 dL_law_307 (ex_iconst (v := nI 2) dL_law_308 rfl (ex_iaddN dL_law_309 (ex_sldL (by omega) hL dL_law_310 (ex_VI2 dL_law_311 lkL_40 (gx0 hG) ⟨_, _, rfl⟩ ⟨(Nat.le_of_ble_eq_true rfl), (Nat.le_of_ble_eq_true rfl)⟩ ⟨(Nat.le_of_ble_eq_true rfl), (Nat.le_of_ble_eq_true rfl)⟩ (Nat.le_of_ble_eq_true rfl) (s_stripe hG M g hx hv (xs (i + 1)) (xs (i + 2))) (fun v1 M1 h1 => ?_)))))))))))))
  obtain ⟨rfl, x1, u1⟩ := h1
  have hm1 := rm_keep hm u1
  refine (ex_al2 dL_law_314 (ex_alF0 dL_law_315 (ex_il3 dL_law_316 (ex_iconst (v := nI 1) dL_law_317 rfl (ex_iaddN dL_law_318 (ex_sldL (by omega) hL dL_law_319 (ex_alF0 dL_law_320 (ex_il3 dL_law_321 (ex_iconst (v := nI 2) dL_law_322 rfl (ex_iaddN dL_law_323 (ex_sldL (by omega) hL dL_law_324 (ex_VI2 dL_law_325 lkL_43 (md_sh hB) ⟨_, _, rfl⟩ ⟨(Nat.le_of_ble_eq_true rfl), (Nat.le_of_ble_eq_true rfl)⟩ ⟨(Nat.le_of_ble_eq_true rfl), (Nat.le_of_ble_eq_true rfl)⟩ (Nat.le_of_ble_eq_true rfl) (r_stripe hB M1 g hm1 hv (xs (i + 1)) (xs (i + 2))) (fun v2 M2 h2 => ?_)))))))))))))
  obtain ⟨rfl, m2, u2⟩ := h2
  exact ex_icmp_eq (tgt := 945) dL_law_328 rfl (fun _ => ih _ _ ⟨Lc, D, _, hG, hB, rx_keep hG x1 u2, m2, hv⟩) (fun h => absurd rfl h)
theorem law_pass {nm : String} {L : Nat} {xs : Nat → Int32} {i Lc D : Nat} {Mr : MR} {M : MM} {g : Sg} (hL : L ≤ 320) (hi : i + 5 ≤ L) (hG : GX SHM Mr Lc D) (hB : MD SHM Mr 94) (hx : RX M Lc g) (hm : RM 94 M g) (hv : sgV g) (ih : ∀ Mr M, LI Mr M → EL nm L xs 945 i [] Mr M) : EL nm L xs 333 i [] Mr M := by
  refine (ex_al1 dL_law_333 (ex_alF0 dL_law_334 (ex_il3 dL_law_335 (ex_iconst (v := nI 1) dL_law_336 rfl (ex_iaddN dL_law_337 (ex_sldL (by omega) hL dL_law_338 (ex_VI1 dL_law_339 lkL_44 (gx0 hG) ⟨_, _, rfl⟩ ⟨(Nat.le_of_ble_eq_true rfl), (Nat.le_of_ble_eq_true rfl)⟩ ⟨(Nat.le_of_ble_eq_true rfl), (Nat.le_of_ble_eq_true rfl)⟩ (Nat.le_of_ble_eq_true rfl) (s_pass hG M g hx hv (xs (i + 1))) (fun v1 M1 h1 => ?_))))))))
  obtain ⟨rfl, x1, u1⟩ := h1
  have hm1 := rm_keep hm u1
  refine (ex_al2 dL_law_342 (ex_alF0 dL_law_343 (ex_il3 dL_law_344 (ex_iconst (v := nI 1) dL_law_345 rfl (ex_iaddN dL_law_346 (ex_sldL (by omega) hL dL_law_347 (ex_VI1 dL_law_348 lkL_47 (md_sh hB) ⟨_, _, rfl⟩ ⟨(Nat.le_of_ble_eq_true rfl), (Nat.le_of_ble_eq_true rfl)⟩ ⟨(Nat.le_of_ble_eq_true rfl), (Nat.le_of_ble_eq_true rfl)⟩ (Nat.le_of_ble_eq_true rfl) (r_pass hB M1 g hm1 hv (xs (i + 1))) (fun v2 M2 h2 => ?_))))))))
  obtain ⟨rfl, m2, u2⟩ := h2
  exact ex_icmp_eq (tgt := 945) dL_law_351 rfl (fun _ => ih _ _ ⟨Lc, D, _, hG, hB, rx_keep hG x1 u2, m2, v_pass hv _⟩) (fun h => absurd rfl h)
theorem law_pay {nm : String} {L : Nat} {xs : Nat → Int32} {i Lc D : Nat} {Mr : MR} {M : MM} {g : Sg} (hL : L ≤ 320) (hi : i + 5 ≤ L) (hG : GX SHM Mr Lc D) (hB : MD SHM Mr 94) (hx : RX M Lc g) (hm : RM 94 M g) (hv : sgV g) (ih : ∀ Mr M, LI Mr M → EL nm L xs 945 i [] Mr M) : EL nm L xs 356 i [] Mr M := by
  refine (ex_al1 dL_law_356 (ex_alF0 dL_law_357 (ex_il3 dL_law_358 (ex_iconst (v := nI 1) dL_law_359 rfl (ex_iaddN dL_law_360 (ex_sldL (by omega) hL dL_law_361 (ex_alF0 dL_law_362 (ex_il3 dL_law_363 (ex_iconst (v := nI 2) dL_law_364 rfl (ex_iaddN dL_law_365 (ex_sldL (by omega) hL dL_law_366 (ex_VI2 dL_law_367 lkL_48 (gx0 hG) ⟨_, _, rfl⟩ ⟨(Nat.le_of_ble_eq_true rfl), (Nat.le_of_ble_eq_true rfl)⟩ ⟨(Nat.le_of_ble_eq_true rfl), (Nat.le_of_ble_eq_true rfl)⟩ (Nat.le_of_ble_eq_true rfl) (s_pay hG M g hx hv (xs (i + 1)) (xs (i + 2))) (fun v1 M1 h1 => ?_)))))))))))))
  obtain ⟨rfl, x1, u1⟩ := h1
  have hm1 := rm_keep hm u1
  refine (ex_al2 dL_law_370 (ex_alF0 dL_law_371 (ex_il3 dL_law_372 (ex_iconst (v := nI 1) dL_law_373 rfl (ex_iaddN dL_law_374 (ex_sldL (by omega) hL dL_law_375 (ex_alF0 dL_law_376 (ex_il3 dL_law_377 (ex_iconst (v := nI 2) dL_law_378 rfl (ex_iaddN dL_law_379 (ex_sldL (by omega) hL dL_law_380 (ex_VI2 dL_law_381 lkL_51 (md_sh hB) ⟨_, _, rfl⟩ ⟨(Nat.le_of_ble_eq_true rfl), (Nat.le_of_ble_eq_true rfl)⟩ ⟨(Nat.le_of_ble_eq_true rfl), (Nat.le_of_ble_eq_true rfl)⟩ (Nat.le_of_ble_eq_true rfl) (r_pay hB M1 g hm1 hv (xs (i + 1)) (xs (i + 2))) (fun v2 M2 h2 => ?_)))))))))))))
  obtain ⟨rfl, m2, u2⟩ := h2
  exact ex_icmp_eq (tgt := 945) dL_law_384 rfl (fun _ => ih _ _ ⟨Lc, D, _, hG, hB, rx_keep hG x1 u2, m2, v_pay hv _ _⟩) (fun h => absurd rfl h)
theorem law_change {nm : String} {L : Nat} {xs : Nat → Int32} {i Lc D : Nat} {Mr : MR} {M : MM} {g : Sg} (hL : L ≤ 320) (hi : i + 5 ≤ L) (hG : GX SHM Mr Lc D) (hB : MD SHM Mr 94) (hx : RX M Lc g) (hm : RM 94 M g) (hv : sgV g) (ih : ∀ Mr M, LI Mr M → EL nm L xs 945 i [] Mr M) : EL nm L xs 389 i [] Mr M := by
  refine (ex_al1 dL_law_389 (ex_alF0 dL_law_390 (ex_il3 dL_law_391 (ex_iconst (v := nI 1) dL_law_392 rfl (ex_iaddN dL_law_393 (ex_sldL (by omega) hL dL_law_394 (ex_alF0 dL_law_395 (ex_il3 dL_law_396 (ex_iconst (v := nI 2) dL_law_397 rfl (ex_iaddN dL_law_398 (ex_sldL (by omega) hL dL_law_399 (ex_VI2 dL_law_400 lkL_52 (gx0 hG) ⟨_, _, rfl⟩ ⟨(Nat.le_of_ble_eq_true rfl), (Nat.le_of_ble_eq_true rfl)⟩ ⟨(Nat.le_of_ble_eq_true rfl), (Nat.le_of_ble_eq_true rfl)⟩ (Nat.le_of_ble_eq_true rfl) (s_change hG M g hx hv (xs (i + 1)) (xs (i + 2))) (fun v1 M1 h1 => ?_)))))))))))))
  obtain ⟨rfl, x1, u1⟩ := h1
  have hm1 := rm_keep hm u1
  refine (ex_al2 dL_law_403 (ex_alF0 dL_law_404 (ex_il3 dL_law_405 (ex_iconst (v := nI 1) dL_law_406 rfl (ex_iaddN dL_law_407 (ex_sldL (by omega) hL dL_law_408 (ex_alF0 dL_law_409 (ex_il3 dL_law_410 (ex_iconst (v := nI 2) dL_law_411 rfl (ex_iaddN dL_law_412 (ex_sldL (by omega) hL dL_law_413 (ex_VI2 dL_law_414 lkL_55 (md_sh hB) ⟨_, _, rfl⟩ ⟨(Nat.le_of_ble_eq_true rfl), (Nat.le_of_ble_eq_true rfl)⟩ ⟨(Nat.le_of_ble_eq_true rfl), (Nat.le_of_ble_eq_true rfl)⟩ (Nat.le_of_ble_eq_true rfl) (r_change hB M1 g hm1 hv (xs (i + 1)) (xs (i + 2))) (fun v2 M2 h2 => ?_)))))))))))))
  obtain ⟨rfl, m2, u2⟩ := h2
  exact ex_icmp_eq (tgt := 945) dL_law_417 rfl (fun _ => ih _ _ ⟨Lc, D, _, hG, hB, rx_keep hG x1 u2, m2, v_change hv _ _⟩) (fun h => absurd rfl h)
theorem law_smoke {nm : String} {L : Nat} {xs : Nat → Int32} {i Lc D : Nat} {Mr : MR} {M : MM} {g : Sg} (hL : L ≤ 320) (hi : i + 5 ≤ L) (hG : GX SHM Mr Lc D) (hB : MD SHM Mr 94) (hx : RX M Lc g) (hm : RM 94 M g) (hv : sgV g) (ih : ∀ Mr M, LI Mr M → EL nm L xs 945 i [] Mr M) : EL nm L xs 422 i [] Mr M := by
  refine (ex_al1 dL_law_422 (ex_alF0 dL_law_423 (ex_il3 dL_law_424 (ex_iconst (v := nI 1) dL_law_425 rfl (ex_iaddN dL_law_426 (ex_sldL (by omega) hL dL_law_427 (ex_VI1 dL_law_428 lkL_56 (gx0 hG) ⟨_, _, rfl⟩ ⟨(Nat.le_of_ble_eq_true rfl), (Nat.le_of_ble_eq_true rfl)⟩ ⟨(Nat.le_of_ble_eq_true rfl), (Nat.le_of_ble_eq_true rfl)⟩ (Nat.le_of_ble_eq_true rfl) (s_smoke hG M g hx (xs (i + 1))) (fun v1 M1 h1 => ?_))))))))
  obtain ⟨rfl, x1, u1⟩ := h1
  have hm1 := rm_keep hm u1
  refine (ex_al2 dL_law_431 (ex_alF0 dL_law_432 (ex_il3 dL_law_433 (ex_iconst (v := nI 1) dL_law_434 rfl (ex_iaddN dL_law_435 (ex_sldL (by omega) hL dL_law_436 (ex_VI1 dL_law_437 lkL_59 (md_sh hB) ⟨_, _, rfl⟩ ⟨(Nat.le_of_ble_eq_true rfl), (Nat.le_of_ble_eq_true rfl)⟩ ⟨(Nat.le_of_ble_eq_true rfl), (Nat.le_of_ble_eq_true rfl)⟩ (Nat.le_of_ble_eq_true rfl) (r_smoke hB M1 g hm1 hv (xs (i + 1))) (fun v2 M2 h2 => ?_))))))))
  obtain ⟨rfl, m2, u2⟩ := h2
  exact ex_icmp_eq (tgt := 945) dL_law_440 rfl (fun _ => ih _ _ ⟨Lc, D, _, hG, hB, rx_keep hG x1 u2, m2, v_smoke hv _⟩) (fun h => absurd rfl h)
theorem law_undo {nm : String} {L : Nat} {xs : Nat → Int32} {i Lc D : Nat} {Mr : MR} {M : MM} {g : Sg} (hL : L ≤ 320) (hi : i + 5 ≤ L) (hG : GX SHM Mr Lc D) (hB : MD SHM Mr 94) (hx : RX M Lc g) (hm : RM 94 M g) (hv : sgV g) (ih : ∀ Mr M, LI Mr M → EL nm L xs 945 i [] Mr M) : EL nm L xs 445 i [] Mr M := by
  refine (ex_al1 dL_law_445 (ex_VI0 dL_law_446 lkL_60 (gx0 hG) ⟨_, _, rfl⟩ ⟨(Nat.le_of_ble_eq_true rfl), (Nat.le_of_ble_eq_true rfl)⟩ ⟨(Nat.le_of_ble_eq_true rfl), (Nat.le_of_ble_eq_true rfl)⟩ (Nat.le_of_ble_eq_true rfl) (s_undo hG M g hx) (fun v1 M1 h1 => ?_)))
  obtain ⟨rfl, x1, u1⟩ := h1
  have hm1 := rm_keep hm u1
  refine (ex_al2 dL_law_449 (ex_VI0 dL_law_450 lkL_63 (md_sh hB) ⟨_, _, rfl⟩ ⟨(Nat.le_of_ble_eq_true rfl), (Nat.le_of_ble_eq_true rfl)⟩ ⟨(Nat.le_of_ble_eq_true rfl), (Nat.le_of_ble_eq_true rfl)⟩ (Nat.le_of_ble_eq_true rfl) (r_undo hB M1 g hm1 hv) (fun v2 M2 h2 => ?_)))
  obtain ⟨rfl, m2, u2⟩ := h2
  exact ex_icmp_eq (tgt := 945) dL_law_453 rfl (fun _ => ih _ _ ⟨Lc, D, _, hG, hB, rx_keep hG x1 u2, m2, v_undo hv⟩) (fun h => absurd rfl h)
theorem law_seen {nm : String} {L : Nat} {xs : Nat → Int32} {i Lc D : Nat} {Mr : MR} {M : MM} {g : Sg} (hL : L ≤ 320) (hi : i + 5 ≤ L) (hG : GX SHM Mr Lc D) (hB : MD SHM Mr 94) (hx : RX M Lc g) (hm : RM 94 M g) (hv : sgV g) (ih : ∀ Mr M, LI Mr M → EL nm L xs 945 i [] Mr M) : EL nm L xs 458 i [] Mr M := by
  refine (ex_al1 dL_law_458 (ex_alF0 dL_law_459 (ex_il3 dL_law_460 (ex_iconst (v := nI 1) dL_law_461 rfl (ex_iaddN dL_law_462 (ex_sldL (by omega) hL dL_law_463 (ex_alF0 dL_law_464 (ex_il3 dL_law_465 (ex_iconst (v := nI 2) dL_law_466 rfl (ex_iaddN dL_law_467 (ex_sldL (by omega) hL dL_law_468 (ex_VI2 dL_law_469 lkL_64 (gx0 hG) ⟨_, _, rfl⟩ ⟨(Nat.le_of_ble_eq_true rfl), (Nat.le_of_ble_eq_true rfl)⟩ ⟨(Nat.le_of_ble_eq_true rfl), (Nat.le_of_ble_eq_true rfl)⟩ (Nat.le_of_ble_eq_true rfl) (s_seen hG M g hx hv (xs (i + 1)) (xs (i + 2))) (fun v1 M1 h1 => ?_)))))))))))))
  obtain ⟨rfl, x1, u1⟩ := h1
  have hm1 := rm_keep hm u1
  refine (ex_al2 dL_law_472 (ex_alF0 dL_law_473 (ex_il3 dL_law_474 (ex_iconst (v := nI 1) dL_law_475 rfl (ex_iaddN dL_law_476 (ex_sldL (by omega) hL dL_law_477 (ex_alF0 dL_law_478 (ex_il3 dL_law_479 (ex_iconst (v := nI 2) dL_law_480 rfl (ex_iaddN dL_law_481 (ex_sldL (by omega) hL dL_law_482 (ex_VI2 dL_law_483 lkL_67 (md_sh hB) ⟨_, _, rfl⟩ ⟨(Nat.le_of_ble_eq_true rfl), (Nat.le_of_ble_eq_true rfl)⟩ ⟨(Nat.le_of_ble_eq_true rfl), (Nat.le_of_ble_eq_true rfl)⟩ (Nat.le_of_ble_eq_true rfl) (r_seen hB M1 g hm1 hv (xs (i + 1)) (xs (i + 2))) (fun v2 M2 h2 => ?_)))))))))))))
  obtain ⟨rfl, m2, u2⟩ := h2
  exact ex_icmp_eq (tgt := 945) dL_law_486 rfl (fun _ => ih _ _ ⟨Lc, D, _, hG, hB, rx_keep hG x1 u2, m2, hv⟩) (fun h => absurd rfl h)
theorem law_sign {nm : String} {L : Nat} {xs : Nat → Int32} {i Lc D : Nat} {Mr : MR} {M : MM} {g : Sg} (hL : L ≤ 320) (hi : i + 5 ≤ L) (hG : GX SHM Mr Lc D) (hB : MD SHM Mr 94) (hx : RX M Lc g) (hm : RM 94 M g) (hv : sgV g) (ih : ∀ Mr M, LI Mr M → EL nm L xs 945 i [] Mr M) : EL nm L xs 491 i [] Mr M := by
  refine (ex_al1 dL_law_491 (ex_alF0 dL_law_492 (ex_il3 dL_law_493 (ex_iconst (v := nI 1) dL_law_494 rfl (ex_iaddN dL_law_495 (ex_sldL (by omega) hL dL_law_496 (ex_alF0 dL_law_497 (ex_il3 dL_law_498 (ex_iconst (v := nI 2) dL_law_499 rfl (ex_iaddN dL_law_500 (ex_sldL (by omega) hL dL_law_501 (ex_VI2 dL_law_502 lkL_68 (gx0 hG) ⟨_, _, rfl⟩ ⟨(Nat.le_of_ble_eq_true rfl), (Nat.le_of_ble_eq_true rfl)⟩ ⟨(Nat.le_of_ble_eq_true rfl), (Nat.le_of_ble_eq_true rfl)⟩ (Nat.le_of_ble_eq_true rfl) (s_sign hG M g hx hv (xs (i + 1)) (xs (i + 2))) (fun v1 M1 h1 => ?_)))))))))))))
  obtain ⟨rfl, x1, u1⟩ := h1
  have hm1 := rm_keep hm u1
  refine (ex_al2 dL_law_505 (ex_alF0 dL_law_506 (ex_il3 dL_law_507 (ex_iconst (v := nI 1) dL_law_508 rfl (ex_iaddN dL_law_509 (ex_sldL (by omega) hL dL_law_510 (ex_alF0 dL_law_511 (ex_il3 dL_law_512 (ex_iconst (v := nI 2) dL_law_513 rfl (ex_iaddN dL_law_514 (ex_sldL (by omega) hL dL_law_515 (ex_VI2 dL_law_516 lkL_71 (md_sh hB) ⟨_, _, rfl⟩ ⟨(Nat.le_of_ble_eq_true rfl), (Nat.le_of_ble_eq_true rfl)⟩ ⟨(Nat.le_of_ble_eq_true rfl), (Nat.le_of_ble_eq_true rfl)⟩ (Nat.le_of_ble_eq_true rfl) (r_sign hB M1 g hm1 hv (xs (i + 1)) (xs (i + 2))) (fun v2 M2 h2 => ?_)))))))))))))
  obtain ⟨rfl, m2, u2⟩ := h2
  exact ex_icmp_eq (tgt := 945) dL_law_519 rfl (fun _ => ih _ _ ⟨Lc, D, _, hG, hB, rx_keep hG x1 u2, m2, hv⟩) (fun h => absurd rfl h)
theorem law_fleet {nm : String} {L : Nat} {xs : Nat → Int32} {i Lc D : Nat} {Mr : MR} {M : MM} {g : Sg} (hL : L ≤ 320) (hi : i + 5 ≤ L) (hG : GX SHM Mr Lc D) (hB : MD SHM Mr 94) (hx : RX M Lc g) (hm : RM 94 M g) (hv : sgV g) (ih : ∀ Mr M, LI Mr M → EL nm L xs 945 i [] Mr M) : EL nm L xs 524 i [] Mr M := by
  refine (ex_al1 dL_law_524 (ex_alF0 dL_law_525 (ex_il3 dL_law_526 (ex_iconst (v := nI 1) dL_law_527 rfl (ex_iaddN dL_law_528 (ex_sldL (by omega) hL dL_law_529 (ex_VI1 dL_law_530 lkL_72 (gx0 hG) ⟨_, _, rfl⟩ ⟨(Nat.le_of_ble_eq_true rfl), (Nat.le_of_ble_eq_true rfl)⟩ ⟨(Nat.le_of_ble_eq_true rfl), (Nat.le_of_ble_eq_true rfl)⟩ (Nat.le_of_ble_eq_true rfl) (s_fleet hG M g hx hv (xs (i + 1))) (fun v1 M1 h1 => ?_))))))))
  obtain ⟨rfl, x1, u1⟩ := h1
  have hm1 := rm_keep hm u1
  refine (ex_al2 dL_law_533 (ex_alF0 dL_law_534 (ex_il3 dL_law_535 (ex_iconst (v := nI 1) dL_law_536 rfl (ex_iaddN dL_law_537 (ex_sldL (by omega) hL dL_law_538 (ex_VI1 dL_law_539 lkL_75 (md_sh hB) ⟨_, _, rfl⟩ ⟨(Nat.le_of_ble_eq_true rfl), (Nat.le_of_ble_eq_true rfl)⟩ ⟨(Nat.le_of_ble_eq_true rfl), (Nat.le_of_ble_eq_true rfl)⟩ (Nat.le_of_ble_eq_true rfl) (r_fleet hB M1 g hm1 hv (xs (i + 1))) (fun v2 M2 h2 => ?_))))))))
  obtain ⟨rfl, m2, u2⟩ := h2
  exact ex_icmp_eq (tgt := 945) dL_law_542 rfl (fun _ => ih _ _ ⟨Lc, D, _, hG, hB, rx_keep hG x1 u2, m2, hv⟩) (fun h => absurd rfl h)
theorem law_order {nm : String} {L : Nat} {xs : Nat → Int32} {i Lc D : Nat} {Mr : MR} {M : MM} {g : Sg} (hL : L ≤ 320) (hi : i + 5 ≤ L) (hG : GX SHM Mr Lc D) (hB : MD SHM Mr 94) (hx : RX M Lc g) (hm : RM 94 M g) (hv : sgV g) (ih : ∀ Mr M, LI Mr M → EL nm L xs 945 i [] Mr M) : EL nm L xs 547 i [] Mr M := by
  refine (ex_al1 dL_law_547 (ex_alF0 dL_law_548 (ex_il3 dL_law_549 (ex_iconst (v := nI 1) dL_law_550 rfl (ex_iaddN dL_law_551 (ex_sldL (by omega) hL dL_law_552 (ex_VI1 dL_law_553 lkL_76 (gx0 hG) ⟨_, _, rfl⟩ ⟨(Nat.le_of_ble_eq_true rfl), (Nat.le_of_ble_eq_true rfl)⟩ ⟨(Nat.le_of_ble_eq_true rfl), (Nat.le_of_ble_eq_true rfl)⟩ (Nat.le_of_ble_eq_true rfl) (s_order hG M g hx hv (xs (i + 1))) (fun v1 M1 h1 => ?_))))))))
  obtain ⟨rfl, x1, u1⟩ := h1
  have hm1 := rm_keep hm u1
  refine (ex_al2 dL_law_556 (ex_alF0 dL_law_557 (ex_il3 dL_law_558 (ex_iconst (v := nI 1) dL_law_559 rfl (ex_iaddN dL_law_560 (ex_sldL (by omega) hL dL_law_561 (ex_VI1 dL_law_562 lkL_79 (md_sh hB) ⟨_, _, rfl⟩ ⟨(Nat.le_of_ble_eq_true rfl), (Nat.le_of_ble_eq_true rfl)⟩ ⟨(Nat.le_of_ble_eq_true rfl), (Nat.le_of_ble_eq_true rfl)⟩ (Nat.le_of_ble_eq_true rfl) (r_order hB M1 g hm1 hv (xs (i + 1))) (fun v2 M2 h2 => ?_))))))))
  obtain ⟨rfl, m2, u2⟩ := h2
  exact ex_icmp_eq (tgt := 945) dL_law_565 rfl (fun _ => ih _ _ ⟨Lc, D, _, hG, hB, rx_keep hG x1 u2, m2, hv⟩) (fun h => absurd rfl h)
theorem law_needed {nm : String} {L : Nat} {xs : Nat → Int32} {i Lc D : Nat} {Mr : MR} {M : MM} {g : Sg} (hL : L ≤ 320) (hi : i + 5 ≤ L) (hG : GX SHM Mr Lc D) (hB : MD SHM Mr 94) (hx : RX M Lc g) (hm : RM 94 M g) (hv : sgV g) (ih : ∀ Mr M, LI Mr M → EL nm L xs 945 i [] Mr M) : EL nm L xs 570 i [] Mr M := by
  refine (ex_al1 dL_law_570 (ex_alF0 dL_law_571 (ex_il3 dL_law_572 (ex_iconst (v := nI 1) dL_law_573 rfl (ex_iaddN dL_law_574 (ex_sldL (by omega) hL dL_law_575 (ex_VI1 dL_law_576 lkL_80 (gx0 hG) ⟨_, _, rfl⟩ ⟨(Nat.le_of_ble_eq_true rfl), (Nat.le_of_ble_eq_true rfl)⟩ ⟨(Nat.le_of_ble_eq_true rfl), (Nat.le_of_ble_eq_true rfl)⟩ (Nat.le_of_ble_eq_true rfl) (s_needed hG M g hx hv (xs (i + 1))) (fun v1 M1 h1 => ?_))))))))
  obtain ⟨rfl, x1, u1⟩ := h1
  have hm1 := rm_keep hm u1
  refine (ex_al2 dL_law_579 (ex_alF0 dL_law_580 (ex_il3 dL_law_581 (ex_iconst (v := nI 1) dL_law_582 rfl (ex_iaddN dL_law_583 (ex_sldL (by omega) hL dL_law_584 (ex_VI1 dL_law_585 lkL_83 (md_sh hB) ⟨_, _, rfl⟩ ⟨(Nat.le_of_ble_eq_true rfl), (Nat.le_of_ble_eq_true rfl)⟩ ⟨(Nat.le_of_ble_eq_true rfl), (Nat.le_of_ble_eq_true rfl)⟩ (Nat.le_of_ble_eq_true rfl) (r_needed hB M1 g hm1 hv (xs (i + 1))) (fun v2 M2 h2 => ?_))))))))
  obtain ⟨rfl, m2, u2⟩ := h2
  exact ex_icmp_eq (tgt := 945) dL_law_588 rfl (fun _ => ih _ _ ⟨Lc, D, _, hG, hB, rx_keep hG x1 u2, m2, hv⟩) (fun h => absurd rfl h)
theorem law_least {nm : String} {L : Nat} {xs : Nat → Int32} {i Lc D : Nat} {Mr : MR} {M : MM} {g : Sg} (hL : L ≤ 320) (hi : i + 5 ≤ L) (hG : GX SHM Mr Lc D) (hB : MD SHM Mr 94) (hx : RX M Lc g) (hm : RM 94 M g) (hv : sgV g) (ih : ∀ Mr M, LI Mr M → EL nm L xs 945 i [] Mr M) : EL nm L xs 593 i [] Mr M := by
  refine (ex_al1 dL_law_593 (ex_alF0 dL_law_594 (ex_il3 dL_law_595 (ex_iconst (v := nI 1) dL_law_596 rfl (ex_iaddN dL_law_597 (ex_sldL (by omega) hL dL_law_598 (ex_VI1 dL_law_599 lkL_84 (gx0 hG) ⟨_, _, rfl⟩ ⟨(Nat.le_of_ble_eq_true rfl), (Nat.le_of_ble_eq_true rfl)⟩ ⟨(Nat.le_of_ble_eq_true rfl), (Nat.le_of_ble_eq_true rfl)⟩ (Nat.le_of_ble_eq_true rfl) (s_least hG M g hx hv (xs (i + 1))) (fun v1 M1 h1 => ?_))))))))
  obtain ⟨rfl, x1, u1⟩ := h1
  have hm1 := rm_keep hm u1
  refine (ex_al2 dL_law_602 (ex_alF0 dL_law_603 (ex_il3 dL_law_604 (ex_iconst (v := nI 1) dL_law_605 rfl (ex_iaddN dL_law_606 (ex_sldL (by omega) hL dL_law_607 (ex_VI1 dL_law_608 lkL_87 (md_sh hB) ⟨_, _, rfl⟩ ⟨(Nat.le_of_ble_eq_true rfl), (Nat.le_of_ble_eq_true rfl)⟩ ⟨(Nat.le_of_ble_eq_true rfl), (Nat.le_of_ble_eq_true rfl)⟩ (Nat.le_of_ble_eq_true rfl) (r_least hB M1 g hm1 hv (xs (i + 1))) (fun v2 M2 h2 => ?_))))))))
  obtain ⟨rfl, m2, u2⟩ := h2
  exact ex_icmp_eq (tgt := 945) dL_law_611 rfl (fun _ => ih _ _ ⟨Lc, D, _, hG, hB, rx_keep hG x1 u2, m2, hv⟩) (fun h => absurd rfl h)
theorem law_rock {nm : String} {L : Nat} {xs : Nat → Int32} {i Lc D : Nat} {Mr : MR} {M : MM} {g : Sg} (hL : L ≤ 320) (hi : i + 5 ≤ L) (hG : GX SHM Mr Lc D) (hB : MD SHM Mr 94) (hx : RX M Lc g) (hm : RM 94 M g) (hv : sgV g) (ih : ∀ Mr M, LI Mr M → EL nm L xs 945 i [] Mr M) : EL nm L xs 616 i [] Mr M := by
  refine (ex_al1 dL_law_616 (ex_alF0 dL_law_617 (ex_il3 dL_law_618 (ex_iconst (v := nI 1) dL_law_619 rfl (ex_iaddN dL_law_620 (ex_sldL (by omega) hL dL_law_621 (ex_VI1 dL_law_622 lkL_88 (gx0 hG) ⟨_, _, rfl⟩ ⟨(Nat.le_of_ble_eq_true rfl), (Nat.le_of_ble_eq_true rfl)⟩ ⟨(Nat.le_of_ble_eq_true rfl), (Nat.le_of_ble_eq_true rfl)⟩ (Nat.le_of_ble_eq_true rfl) (s_rock hG M g hx hv (xs (i + 1))) (fun v1 M1 h1 => ?_))))))))
  obtain ⟨rfl, x1, u1⟩ := h1
  have hm1 := rm_keep hm u1
  refine (ex_al2 dL_law_625 (ex_alF0 dL_law_626 (ex_il3 dL_law_627 (ex_iconst (v := nI 1) dL_law_628 rfl (ex_iaddN dL_law_629 (ex_sldL (by omega) hL dL_law_630 (ex_VI1 dL_law_631 lkL_91 (md_sh hB) ⟨_, _, rfl⟩ ⟨(Nat.le_of_ble_eq_true rfl), (Nat.le_of_ble_eq_true rfl)⟩ ⟨(Nat.le_of_ble_eq_true rfl), (Nat.le_of_ble_eq_true rfl)⟩ (Nat.le_of_ble_eq_true rfl) (r_rock hB M1 g hm1 hv (xs (i + 1))) (fun v2 M2 h2 => ?_))))))))
  obtain ⟨rfl, m2, u2⟩ := h2
  exact ex_icmp_eq (tgt := 945) dL_law_634 rfl (fun _ => ih _ _ ⟨Lc, D, _, hG, hB, rx_keep hG x1 u2, m2, hv⟩) (fun h => absurd rfl h)
theorem law_row {nm : String} {L : Nat} {xs : Nat → Int32} {i Lc D : Nat} {Mr : MR} {M : MM} {g : Sg} (hL : L ≤ 320) (hi : i + 5 ≤ L) (hG : GX SHM Mr Lc D) (hB : MD SHM Mr 94) (hx : RX M Lc g) (hm : RM 94 M g) (hv : sgV g) (ih : ∀ Mr M, LI Mr M → EL nm L xs 945 i [] Mr M) : EL nm L xs 639 i [] Mr M := by
  refine (ex_al1 dL_law_639 (ex_alF0 dL_law_640 (ex_il3 dL_law_641 (ex_iconst (v := nI 1) dL_law_642 rfl (ex_iaddN dL_law_643 (ex_sldL (by omega) hL dL_law_644 (ex_alF0 dL_law_645 (ex_il3 dL_law_646 (ex_iconst (v := nI 2) dL_law_647 rfl (ex_iaddN dL_law_648 (ex_sldL (by omega) hL dL_law_649 (ex_alF0 dL_law_650 (ex_il3 dL_law_651 (ex_iconst (v := nI 3) dL_law_652 rfl (ex_iaddN dL_law_653 (ex_sldL (by omega) hL dL_law_654 (ex_alF0 dL_law_655 (ex_il3 dL_law_656 (ex_iconst (v := nI 4) dL_law_657 rfl (ex_iaddN dL_law_658 (ex_sldL (by omega) hL dL_law_659 (ex_VI4 dL_law_660 lkL_92 (gx0 hG) ⟨_, _, rfl⟩ ⟨(Nat.le_of_ble_eq_true rfl), (Nat.le_of_ble_eq_true rfl)⟩ ⟨(Nat.le_of_ble_eq_true rfl), (Nat.le_of_ble_eq_true rfl)⟩ (Nat.le_of_ble_eq_true rfl) (s_row hG M g hx hv (xs (i + 1)) (xs (i + 2)) (xs (i + 3)) (xs (i + 4))) (fun v1 M1 h1 => ?_)))))))))))))))))))))))
  obtain ⟨rfl, x1, u1⟩ := h1
  have hm1 := rm_keep hm u1
  refine (ex_al2 dL_law_663 (ex_alF0 dL_law_664 (ex_il3 dL_law_665 (ex_iconst (v := nI 1) dL_law_666 rfl (ex_iaddN dL_law_667 (ex_sldL (by omega) hL dL_law_668 (ex_alF0 dL_law_669 (ex_il3 dL_law_670 (ex_iconst (v := nI 2) dL_law_671 rfl (ex_iaddN dL_law_672 (ex_sldL (by omega) hL dL_law_673 (ex_alF0 dL_law_674 (ex_il3 dL_law_675 (ex_iconst (v := nI 3) dL_law_676 rfl (ex_iaddN dL_law_677 (ex_sldL (by omega) hL dL_law_678 (ex_alF0 dL_law_679 (ex_il3 dL_law_680 (ex_iconst (v := nI 4) dL_law_681 rfl (ex_iaddN dL_law_682 (ex_sldL (by omega) hL dL_law_683 (ex_VI4 dL_law_684 lkL_96 (md_sh hB) ⟨_, _, rfl⟩ ⟨(Nat.le_of_ble_eq_true rfl), (Nat.le_of_ble_eq_true rfl)⟩ ⟨(Nat.le_of_ble_eq_true rfl), (Nat.le_of_ble_eq_true rfl)⟩ (Nat.le_of_ble_eq_true rfl) (r_row hB M1 g hm1 hv (xs (i + 1)) (xs (i + 2)) (xs (i + 3)) (xs (i + 4))) (fun v2 M2 h2 => ?_)))))))))))))))))))))))
  obtain ⟨rfl, m2, u2⟩ := h2
  exact ex_icmp_eq (tgt := 945) dL_law_687 rfl (fun _ => ih _ _ ⟨Lc, D, _, hG, hB, rx_keep hG x1 u2, m2, hv⟩) (fun h => absurd rfl h)
theorem law_look {nm : String} {L : Nat} {xs : Nat → Int32} {i Lc D : Nat} {Mr : MR} {M : MM} {g : Sg} (hL : L ≤ 320) (hi : i + 5 ≤ L) (hG : GX SHM Mr Lc D) (hB : MD SHM Mr 94) (hx : RX M Lc g) (hm : RM 94 M g) (hv : sgV g) (ih : ∀ Mr M, LI Mr M → EL nm L xs 945 i [] Mr M) : EL nm L xs 692 i [] Mr M := by
  refine (ex_al1 dL_law_692 (ex_alF0 dL_law_693 (ex_il3 dL_law_694 (ex_iconst (v := nI 1) dL_law_695 rfl (ex_iaddN dL_law_696 (ex_sldL (by omega) hL dL_law_697 (ex_alF0 dL_law_698 (ex_il3 dL_law_699 (ex_iconst (v := nI 2) dL_law_700 rfl (ex_iaddN dL_law_701 (ex_sldL (by omega) hL dL_law_702 (ex_VI2 dL_law_703 lkL_97 (gx0 hG) ⟨_, _, rfl⟩ ⟨(Nat.le_of_ble_eq_true rfl), (Nat.le_of_ble_eq_true rfl)⟩ ⟨(Nat.le_of_ble_eq_true rfl), (Nat.le_of_ble_eq_true rfl)⟩ (Nat.le_of_ble_eq_true rfl) (s_look hG M g hx (xs (i + 1)) (xs (i + 2))) (fun v1 M1 h1 => ?_)))))))))))))
  obtain ⟨rfl, x1, u1⟩ := h1
  have hm1 := rm_keep hm u1
  refine (ex_al2 dL_law_706 (ex_alF0 dL_law_707 (ex_il3 dL_law_708 (ex_iconst (v := nI 1) dL_law_709 rfl (ex_iaddN dL_law_710 (ex_sldL (by omega) hL dL_law_711 (ex_alF0 dL_law_712 (ex_il3 dL_law_713 (ex_iconst (v := nI 2) dL_law_714 rfl (ex_iaddN dL_law_715 (ex_sldL (by omega) hL dL_law_716 (ex_VI2 dL_law_717 lkL_100 (md_sh hB) ⟨_, _, rfl⟩ ⟨(Nat.le_of_ble_eq_true rfl), (Nat.le_of_ble_eq_true rfl)⟩ ⟨(Nat.le_of_ble_eq_true rfl), (Nat.le_of_ble_eq_true rfl)⟩ (Nat.le_of_ble_eq_true rfl) (r_look hB M1 g hm1 hv (xs (i + 1)) (xs (i + 2))) (fun v2 M2 h2 => ?_)))))))))))))
  obtain ⟨rfl, m2, u2⟩ := h2
  exact ex_icmp_eq (tgt := 945) dL_law_720 rfl (fun _ => ih _ _ ⟨Lc, D, _, hG, hB, rx_keep hG x1 u2, m2, v_look hv _ _⟩) (fun h => absurd rfl h)
theorem law_forget {nm : String} {L : Nat} {xs : Nat → Int32} {i Lc D : Nat} {Mr : MR} {M : MM} {g : Sg} (hL : L ≤ 320) (hi : i + 5 ≤ L) (hG : GX SHM Mr Lc D) (hB : MD SHM Mr 94) (hx : RX M Lc g) (hm : RM 94 M g) (hv : sgV g) (ih : ∀ Mr M, LI Mr M → EL nm L xs 945 i [] Mr M) : EL nm L xs 725 i [] Mr M := by
  refine (ex_al1 dL_law_725 (ex_VI0 dL_law_726 lkL_101 (gx0 hG) ⟨_, _, rfl⟩ ⟨(Nat.le_of_ble_eq_true rfl), (Nat.le_of_ble_eq_true rfl)⟩ ⟨(Nat.le_of_ble_eq_true rfl), (Nat.le_of_ble_eq_true rfl)⟩ (Nat.le_of_ble_eq_true rfl) (s_forget hG M g hx) (fun v1 M1 h1 => ?_)))
  obtain ⟨rfl, x1, u1⟩ := h1
  have hm1 := rm_keep hm u1
  refine (ex_al2 dL_law_729 (ex_VI0 dL_law_730 lkL_104 (md_sh hB) ⟨_, _, rfl⟩ ⟨(Nat.le_of_ble_eq_true rfl), (Nat.le_of_ble_eq_true rfl)⟩ ⟨(Nat.le_of_ble_eq_true rfl), (Nat.le_of_ble_eq_true rfl)⟩ (Nat.le_of_ble_eq_true rfl) (r_forget hB M1 g hm1) (fun v2 M2 h2 => ?_)))
  obtain ⟨rfl, m2, u2⟩ := h2
  exact ex_icmp_eq (tgt := 945) dL_law_733 rfl (fun _ => ih _ _ ⟨Lc, D, _, hG, hB, rx_keep hG x1 u2, m2, v_forget hv⟩) (fun h => absurd rfl h)
theorem law_behind {nm : String} {L : Nat} {xs : Nat → Int32} {i Lc D : Nat} {Mr : MR} {M : MM} {g : Sg} (hL : L ≤ 320) (hi : i + 5 ≤ L) (hG : GX SHM Mr Lc D) (hB : MD SHM Mr 94) (hx : RX M Lc g) (hm : RM 94 M g) (hv : sgV g) (ih : ∀ Mr M, LI Mr M → EL nm L xs 945 i [] Mr M) : EL nm L xs 738 i [] Mr M := by
  refine (ex_al1 dL_law_738 (ex_alF0 dL_law_739 (ex_il3 dL_law_740 (ex_iconst (v := nI 1) dL_law_741 rfl (ex_iaddN dL_law_742 (ex_sldL (by omega) hL dL_law_743 (ex_VI1 dL_law_744 lkL_105 (gx0 hG) ⟨_, _, rfl⟩ ⟨(Nat.le_of_ble_eq_true rfl), (Nat.le_of_ble_eq_true rfl)⟩ ⟨(Nat.le_of_ble_eq_true rfl), (Nat.le_of_ble_eq_true rfl)⟩ (Nat.le_of_ble_eq_true rfl) (s_behind hG M g hx hv (xs (i + 1))) (fun v1 M1 h1 => ?_))))))))
  obtain ⟨rfl, x1, u1⟩ := h1
  have hm1 := rm_keep hm u1
  refine (ex_al2 dL_law_747 (ex_alF0 dL_law_748 (ex_il3 dL_law_749 (ex_iconst (v := nI 1) dL_law_750 rfl (ex_iaddN dL_law_751 (ex_sldL (by omega) hL dL_law_752 (ex_VI1 dL_law_753 lkL_108 (md_sh hB) ⟨_, _, rfl⟩ ⟨(Nat.le_of_ble_eq_true rfl), (Nat.le_of_ble_eq_true rfl)⟩ ⟨(Nat.le_of_ble_eq_true rfl), (Nat.le_of_ble_eq_true rfl)⟩ (Nat.le_of_ble_eq_true rfl) (r_behind hB M1 g hm1 hv (xs (i + 1))) (fun v2 M2 h2 => ?_))))))))
  obtain ⟨rfl, m2, u2⟩ := h2
  exact ex_icmp_eq (tgt := 945) dL_law_756 rfl (fun _ => ih _ _ ⟨Lc, D, _, hG, hB, rx_keep hG x1 u2, m2, hv⟩) (fun h => absurd rfl h)
theorem law_panes {nm : String} {L : Nat} {xs : Nat → Int32} {i Lc D : Nat} {Mr : MR} {M : MM} {g : Sg} (hL : L ≤ 320) (hi : i + 5 ≤ L) (hG : GX SHM Mr Lc D) (hB : MD SHM Mr 94) (hx : RX M Lc g) (hm : RM 94 M g) (hv : sgV g) (ih : ∀ Mr M, LI Mr M → EL nm L xs 945 i [] Mr M) : EL nm L xs 761 i [] Mr M := by
  refine (ex_al1 dL_law_761 (ex_VI0 dL_law_762 lkL_109 (gx0 hG) ⟨_, _, rfl⟩ ⟨(Nat.le_of_ble_eq_true rfl), (Nat.le_of_ble_eq_true rfl)⟩ ⟨(Nat.le_of_ble_eq_true rfl), (Nat.le_of_ble_eq_true rfl)⟩ (Nat.le_of_ble_eq_true rfl) (s_panes hG M g hx hv) (fun v1 M1 h1 => ?_)))
  obtain ⟨rfl, x1, u1⟩ := h1
  have hm1 := rm_keep hm u1
  refine (ex_al2 dL_law_765 (ex_VI0 dL_law_766 lkL_112 (md_sh hB) ⟨_, _, rfl⟩ ⟨(Nat.le_of_ble_eq_true rfl), (Nat.le_of_ble_eq_true rfl)⟩ ⟨(Nat.le_of_ble_eq_true rfl), (Nat.le_of_ble_eq_true rfl)⟩ (Nat.le_of_ble_eq_true rfl) (r_panes hB M1 g hm1 hv) (fun v2 M2 h2 => ?_)))
  obtain ⟨rfl, m2, u2⟩ := h2
  exact ex_icmp_eq (tgt := 945) dL_law_769 rfl (fun _ => ih _ _ ⟨Lc, D, _, hG, hB, rx_keep hG x1 u2, m2, hv⟩) (fun h => absurd rfl h)
theorem law_odds {nm : String} {L : Nat} {xs : Nat → Int32} {i Lc D : Nat} {Mr : MR} {M : MM} {g : Sg} (hL : L ≤ 320) (hi : i + 5 ≤ L) (hG : GX SHM Mr Lc D) (hB : MD SHM Mr 94) (hx : RX M Lc g) (hm : RM 94 M g) (hv : sgV g) (ih : ∀ Mr M, LI Mr M → EL nm L xs 945 i [] Mr M) : EL nm L xs 774 i [] Mr M := by
  refine (ex_al1 dL_law_774 (ex_alF0 dL_law_775 (ex_il3 dL_law_776 (ex_iconst (v := nI 1) dL_law_777 rfl (ex_iaddN dL_law_778 (ex_sldL (by omega) hL dL_law_779 (ex_alF0 dL_law_780 (ex_il3 dL_law_781 (ex_iconst (v := nI 2) dL_law_782 rfl (ex_iaddN dL_law_783 (ex_sldL (by omega) hL dL_law_784 (ex_VI2 dL_law_785 lkL_113 (gx0 hG) ⟨_, _, rfl⟩ ⟨(Nat.le_of_ble_eq_true rfl), (Nat.le_of_ble_eq_true rfl)⟩ ⟨(Nat.le_of_ble_eq_true rfl), (Nat.le_of_ble_eq_true rfl)⟩ (Nat.le_of_ble_eq_true rfl) (s_odds hG M g hx hv (xs (i + 1)) (xs (i + 2))) (fun v1 M1 h1 => ?_)))))))))))))
  obtain ⟨rfl, x1, u1⟩ := h1
  have hm1 := rm_keep hm u1
  refine (ex_al2 dL_law_788 (ex_alF0 dL_law_789 (ex_il3 dL_law_790 (ex_iconst (v := nI 1) dL_law_791 rfl (ex_iaddN dL_law_792 (ex_sldL (by omega) hL dL_law_793 (ex_alF0 dL_law_794 (ex_il3 dL_law_795 (ex_iconst (v := nI 2) dL_law_796 rfl (ex_iaddN dL_law_797 (ex_sldL (by omega) hL dL_law_798 (ex_VI2 dL_law_799 lkL_116 (md_sh hB) ⟨_, _, rfl⟩ ⟨(Nat.le_of_ble_eq_true rfl), (Nat.le_of_ble_eq_true rfl)⟩ ⟨(Nat.le_of_ble_eq_true rfl), (Nat.le_of_ble_eq_true rfl)⟩ (Nat.le_of_ble_eq_true rfl) (r_odds hB M1 g hm1 hv (xs (i + 1)) (xs (i + 2))) (fun v2 M2 h2 => ?_)))))))))))))
  obtain ⟨rfl, m2, u2⟩ := h2
  exact ex_icmp_eq (tgt := 945) dL_law_802 rfl (fun _ => ih _ _ ⟨Lc, D, _, hG, hB, rx_keep hG x1 u2, m2, hv⟩) (fun h => absurd rfl h)
theorem law_mean {nm : String} {L : Nat} {xs : Nat → Int32} {i Lc D : Nat} {Mr : MR} {M : MM} {g : Sg} (hL : L ≤ 320) (hi : i + 5 ≤ L) (hG : GX SHM Mr Lc D) (hB : MD SHM Mr 94) (hx : RX M Lc g) (hm : RM 94 M g) (hv : sgV g) (ih : ∀ Mr M, LI Mr M → EL nm L xs 945 i [] Mr M) : EL nm L xs 807 i [] Mr M := by
  refine (ex_al1 dL_law_807 (ex_alF0 dL_law_808 (ex_il3 dL_law_809 (ex_iconst (v := nI 1) dL_law_810 rfl (ex_iaddN dL_law_811 (ex_sldL (by omega) hL dL_law_812 (ex_VI1 dL_law_813 lkL_117 (gx0 hG) ⟨_, _, rfl⟩ ⟨(Nat.le_of_ble_eq_true rfl), (Nat.le_of_ble_eq_true rfl)⟩ ⟨(Nat.le_of_ble_eq_true rfl), (Nat.le_of_ble_eq_true rfl)⟩ (Nat.le_of_ble_eq_true rfl) (s_mean hG M g hx hv (xs (i + 1))) (fun v1 M1 h1 => ?_))))))))
  obtain ⟨rfl, x1, u1⟩ := h1
  have hm1 := rm_keep hm u1
  refine (ex_al2 dL_law_816 (ex_alF0 dL_law_817 (ex_il3 dL_law_818 (ex_iconst (v := nI 1) dL_law_819 rfl (ex_iaddN dL_law_820 (ex_sldL (by omega) hL dL_law_821 (ex_VI1 dL_law_822 lkL_120 (md_sh hB) ⟨_, _, rfl⟩ ⟨(Nat.le_of_ble_eq_true rfl), (Nat.le_of_ble_eq_true rfl)⟩ ⟨(Nat.le_of_ble_eq_true rfl), (Nat.le_of_ble_eq_true rfl)⟩ (Nat.le_of_ble_eq_true rfl) (r_mean hB M1 g hm1 hv (xs (i + 1))) (fun v2 M2 h2 => ?_))))))))
  obtain ⟨rfl, m2, u2⟩ := h2
  exact ex_icmp_eq (tgt := 945) dL_law_825 rfl (fun _ => ih _ _ ⟨Lc, D, _, hG, hB, rx_keep hG x1 u2, m2, hv⟩) (fun h => absurd rfl h)
theorem law_owed {nm : String} {L : Nat} {xs : Nat → Int32} {i Lc D : Nat} {Mr : MR} {M : MM} {g : Sg} (hL : L ≤ 320) (hi : i + 5 ≤ L) (hG : GX SHM Mr Lc D) (hB : MD SHM Mr 94) (hx : RX M Lc g) (hm : RM 94 M g) (hv : sgV g) (ih : ∀ Mr M, LI Mr M → EL nm L xs 945 i [] Mr M) : EL nm L xs 830 i [] Mr M := by
  refine (ex_al1 dL_law_830 (ex_alF0 dL_law_831 (ex_il3 dL_law_832 (ex_iconst (v := nI 1) dL_law_833 rfl (ex_iaddN dL_law_834 (ex_sldL (by omega) hL dL_law_835 (ex_VI1 dL_law_836 lkL_121 (gx0 hG) ⟨_, _, rfl⟩ ⟨(Nat.le_of_ble_eq_true rfl), (Nat.le_of_ble_eq_true rfl)⟩ ⟨(Nat.le_of_ble_eq_true rfl), (Nat.le_of_ble_eq_true rfl)⟩ (Nat.le_of_ble_eq_true rfl) (s_owed hG M g hx hv (xs (i + 1))) (fun v1 M1 h1 => ?_))))))))
  obtain ⟨rfl, x1, u1⟩ := h1
  have hm1 := rm_keep hm u1
  refine (ex_al2 dL_law_839 (ex_alF0 dL_law_840 (ex_il3 dL_law_841 (ex_iconst (v := nI 1) dL_law_842 rfl (ex_iaddN dL_law_843 (ex_sldL (by omega) hL dL_law_844 (ex_VI1 dL_law_845 lkL_124 (md_sh hB) ⟨_, _, rfl⟩ ⟨(Nat.le_of_ble_eq_true rfl), (Nat.le_of_ble_eq_true rfl)⟩ ⟨(Nat.le_of_ble_eq_true rfl), (Nat.le_of_ble_eq_true rfl)⟩ (Nat.le_of_ble_eq_true rfl) (r_owed hB M1 g hm1 hv (xs (i + 1))) (fun v2 M2 h2 => ?_))))))))
  obtain ⟨rfl, m2, u2⟩ := h2
  exact ex_icmp_eq (tgt := 945) dL_law_848 rfl (fun _ => ih _ _ ⟨Lc, D, _, hG, hB, rx_keep hG x1 u2, m2, hv⟩) (fun h => absurd rfl h)
theorem law_weeks {nm : String} {L : Nat} {xs : Nat → Int32} {i Lc D : Nat} {Mr : MR} {M : MM} {g : Sg} (hL : L ≤ 320) (hi : i + 5 ≤ L) (hG : GX SHM Mr Lc D) (hB : MD SHM Mr 94) (hx : RX M Lc g) (hm : RM 94 M g) (hv : sgV g) (ih : ∀ Mr M, LI Mr M → EL nm L xs 945 i [] Mr M) : EL nm L xs 853 i [] Mr M := by
  refine (ex_al1 dL_law_853 (ex_alF0 dL_law_854 (ex_il3 dL_law_855 (ex_iconst (v := nI 1) dL_law_856 rfl (ex_iaddN dL_law_857 (ex_sldL (by omega) hL dL_law_858 (ex_alF0 dL_law_859 (ex_il3 dL_law_860 (ex_iconst (v := nI 2) dL_law_861 rfl (ex_iaddN dL_law_862 (ex_sldL (by omega) hL dL_law_863 (ex_alF0 dL_law_864 (ex_il3 dL_law_865 (ex_iconst (v := nI 3) dL_law_866 rfl (ex_iaddN dL_law_867 (ex_sldL (by omega) hL dL_law_868 (ex_VI3 dL_law_869 lkL_125 (gx0 hG) ⟨_, _, rfl⟩ ⟨(Nat.le_of_ble_eq_true rfl), (Nat.le_of_ble_eq_true rfl)⟩ ⟨(Nat.le_of_ble_eq_true rfl), (Nat.le_of_ble_eq_true rfl)⟩ (Nat.le_of_ble_eq_true rfl) (s_weeks hG M g hx hv (xs (i + 1)) (xs (i + 2)) (xs (i + 3))) (fun v1 M1 h1 => ?_))))))))))))))))))
  obtain ⟨rfl, x1, u1⟩ := h1
  have hm1 := rm_keep hm u1
  refine (ex_al2 dL_law_872 (ex_alF0 dL_law_873 (ex_il3 dL_law_874 (ex_iconst (v := nI 1) dL_law_875 rfl (ex_iaddN dL_law_876 (ex_sldL (by omega) hL dL_law_877 (ex_alF0 dL_law_878 (ex_il3 dL_law_879 (ex_iconst (v := nI 2) dL_law_880 rfl (ex_iaddN dL_law_881 (ex_sldL (by omega) hL dL_law_882 (ex_alF0 dL_law_883 (ex_il3 dL_law_884 (ex_iconst (v := nI 3) dL_law_885 rfl (ex_iaddN dL_law_886 (ex_sldL (by omega) hL dL_law_887 (ex_VI3 dL_law_888 lkL_129 (md_sh hB) ⟨_, _, rfl⟩ ⟨(Nat.le_of_ble_eq_true rfl), (Nat.le_of_ble_eq_true rfl)⟩ ⟨(Nat.le_of_ble_eq_true rfl), (Nat.le_of_ble_eq_true rfl)⟩ (Nat.le_of_ble_eq_true rfl) (r_weeks hB M1 g hm1 hv (xs (i + 1)) (xs (i + 2)) (xs (i + 3))) (fun v2 M2 h2 => ?_))))))))))))))))))
  obtain ⟨rfl, m2, u2⟩ := h2
  exact ex_icmp_eq (tgt := 945) dL_law_891 rfl (fun _ => ih _ _ ⟨Lc, D, _, hG, hB, rx_keep hG x1 u2, m2, hv⟩) (fun h => absurd rfl h)
theorem law_keep {nm : String} {L : Nat} {xs : Nat → Int32} {i Lc D : Nat} {Mr : MR} {M : MM} {g : Sg} (hL : L ≤ 320) (hi : i + 5 ≤ L) (hG : GX SHM Mr Lc D) (hB : MD SHM Mr 94) (hx : RX M Lc g) (hm : RM 94 M g) (hv : sgV g) (ih : ∀ Mr M, LI Mr M → EL nm L xs 945 i [] Mr M) : EL nm L xs 896 i [] Mr M := by
  refine (ex_al1 dL_law_896 (ex_VI0 dL_law_897 lkL_130 (gx0 hG) ⟨_, _, rfl⟩ ⟨(Nat.le_of_ble_eq_true rfl), (Nat.le_of_ble_eq_true rfl)⟩ ⟨(Nat.le_of_ble_eq_true rfl), (Nat.le_of_ble_eq_true rfl)⟩ (Nat.le_of_ble_eq_true rfl) (s_keep hG M g hx) (fun v1 M1 h1 => ?_)))
  obtain ⟨rfl, x1, u1⟩ := h1
  have hm1 := rm_keep hm u1
  refine (ex_al2 dL_law_900 (ex_VI0 dL_law_901 lkL_133 (md_sh hB) ⟨_, _, rfl⟩ ⟨(Nat.le_of_ble_eq_true rfl), (Nat.le_of_ble_eq_true rfl)⟩ ⟨(Nat.le_of_ble_eq_true rfl), (Nat.le_of_ble_eq_true rfl)⟩ (Nat.le_of_ble_eq_true rfl) (r_keep hB M1 g hm1 hv) (fun v2 M2 h2 => ?_)))
  obtain ⟨rfl, m2, u2⟩ := h2
  exact ex_icmp_eq (tgt := 945) dL_law_904 rfl (fun _ => ih _ _ ⟨Lc, D, _, hG, hB, rx_keep hG x1 u2, m2, v_keep hv⟩) (fun h => absurd rfl h)
theorem law_back {nm : String} {L : Nat} {xs : Nat → Int32} {i Lc D : Nat} {Mr : MR} {M : MM} {g : Sg} (hL : L ≤ 320) (hi : i + 5 ≤ L) (hG : GX SHM Mr Lc D) (hB : MD SHM Mr 94) (hx : RX M Lc g) (hm : RM 94 M g) (hv : sgV g) (ih : ∀ Mr M, LI Mr M → EL nm L xs 945 i [] Mr M) : EL nm L xs 909 i [] Mr M := by
  refine (ex_al1 dL_law_909 (ex_VI0 dL_law_910 lkL_134 (gx0 hG) ⟨_, _, rfl⟩ ⟨(Nat.le_of_ble_eq_true rfl), (Nat.le_of_ble_eq_true rfl)⟩ ⟨(Nat.le_of_ble_eq_true rfl), (Nat.le_of_ble_eq_true rfl)⟩ (Nat.le_of_ble_eq_true rfl) (s_back hG M g hx) (fun v1 M1 h1 => ?_)))
  obtain ⟨rfl, x1, u1⟩ := h1
  have hm1 := rm_keep hm u1
  refine (ex_al2 dL_law_913 (ex_VI0 dL_law_914 lkL_137 (md_sh hB) ⟨_, _, rfl⟩ ⟨(Nat.le_of_ble_eq_true rfl), (Nat.le_of_ble_eq_true rfl)⟩ ⟨(Nat.le_of_ble_eq_true rfl), (Nat.le_of_ble_eq_true rfl)⟩ (Nat.le_of_ble_eq_true rfl) (r_back hB M1 g hm1 hv) (fun v2 M2 h2 => ?_)))
  obtain ⟨rfl, m2, u2⟩ := h2
  exact ex_icmp_eq (tgt := 945) dL_law_917 rfl (fun _ => ih _ _ ⟨Lc, D, _, hG, hB, rx_keep hG x1 u2, m2, v_back hv⟩) (fun h => absurd rfl h)
theorem law_count {nm : String} {L : Nat} {xs : Nat → Int32} {i Lc D : Nat} {Mr : MR} {M : MM} {g : Sg} (hL : L ≤ 320) (hi : i + 5 ≤ L) (hG : GX SHM Mr Lc D) (hB : MD SHM Mr 94) (hx : RX M Lc g) (hm : RM 94 M g) (hv : sgV g) (ih : ∀ Mr M, LI Mr M → EL nm L xs 945 i [] Mr M) : EL nm L xs 922 i [] Mr M := by
  refine (ex_al1 dL_law_922 (ex_alF0 dL_law_923 (ex_il3 dL_law_924 (ex_iconst (v := nI 1) dL_law_925 rfl (ex_iaddN dL_law_926 (ex_sldL (by omega) hL dL_law_927 (ex_VI1 dL_law_928 lkL_138 (gx0 hG) ⟨_, _, rfl⟩ ⟨(Nat.le_of_ble_eq_true rfl), (Nat.le_of_ble_eq_true rfl)⟩ ⟨(Nat.le_of_ble_eq_true rfl), (Nat.le_of_ble_eq_true rfl)⟩ (Nat.le_of_ble_eq_true rfl) (s_count hG M g hx hv (xs (i + 1))) (fun v1 M1 h1 => ?_))))))))
  obtain ⟨rfl, x1, u1⟩ := h1
  have hm1 := rm_keep hm u1
  refine (ex_al2 dL_law_931 (ex_alF0 dL_law_932 (ex_il3 dL_law_933 (ex_iconst (v := nI 1) dL_law_934 rfl (ex_iaddN dL_law_935 (ex_sldL (by omega) hL dL_law_936 (ex_VI1 dL_law_937 lkL_141 (md_sh hB) ⟨_, _, rfl⟩ ⟨(Nat.le_of_ble_eq_true rfl), (Nat.le_of_ble_eq_true rfl)⟩ ⟨(Nat.le_of_ble_eq_true rfl), (Nat.le_of_ble_eq_true rfl)⟩ (Nat.le_of_ble_eq_true rfl) (r_count hB M1 g hm1 hv (xs (i + 1))) (fun v2 M2 h2 => ?_))))))))
  obtain ⟨rfl, m2, u2⟩ := h2
  exact ex_icmp_eq (tgt := 945) dL_law_940 rfl (fun _ => ih _ _ ⟨Lc, D, _, hG, hB, rx_keep hG x1 u2, m2, hv⟩) (fun h => absurd rfl h)
