/-! what the calls answer and do: the pure state, and a function for each call -/
abbrev St : Type := Nat × Int32 × (Nat → Int32) × (Nat → Nat) × (Nat → Nat)
abbrev To : Type := Td × Sd × (Nat → Nat) × Int32
abbrev Pk : Type := Nat × (Nat → St)
abbrev Lk : Type := Nat × (Nat → Nat) × (Nat → Nat)
abbrev Tx : Type := Nat × (Nat → Int32)
abbrev Sg : Type := To × St × Pk × Pk × Lk × Tx
def pl (x : St) : Pl := (x.1, x.2.2.2.1, x.2.2.2.2)
def lit (o : To) (x : St) (i : Nat) : Bool := pay x.2.2.1 o.2.2.2 i
def wh (o : To) (x : St) (s : Nat) : Option Nat := who o.1 (pl x) (lit o x) s
def cl0 (o : To) (x : St) (s : Nat) : Nat := cof o.1 (pl x) (lit o x) (bt x.2.1) s
/-- valid -/
def stV (n : Nat) (x : St) : Prop := x.1 ≤ 999 ∧ (∀ j, 24 ≤ j → bt x.2.1 j = false) ∧ ∀ i, i < n → (0 ≤ (x.2.2.1 i).toInt ∧ (x.2.2.1 i).toInt ≤ 20 * x.1) ∧ x.2.2.2.1 i < 24 ∧ 1 ≤ x.2.2.2.2 i ∧ x.2.2.2.2 i ≤ 12
def toV (o : To) : Prop := (o.1.1 ≤ 6 ∧ 1 ≤ o.1.1 ∧ ∀ i, i < o.1.1 → o.1.2.1 i < 4 ∧ (0 ≤ (o.1.2.2.1 i).toInt ∧ (o.1.2.2.1 i).toInt ≤ 20) ∧ o.1.2.2.2 i < 4) ∧ (o.2.1.1 ≤ 5 ∧ ∀ k, k < o.2.1.1 → o.2.1.2.1 k < 24 ∧ 1 ≤ o.2.1.2.2 k ∧ o.2.1.2.2 k ≤ 12) ∧ o.2.2.1 0 + o.2.2.1 1 + o.2.2.1 2 + o.2.2.1 3 = 10
def sgV (g : Sg) : Prop := toV g.1 ∧ stV g.1.1.1 g.2.1 ∧ (g.2.2.1.1 ≤ 8 ∧ ∀ k, k < g.2.2.1.1 → stV g.1.1.1 (g.2.2.1.2 k)) ∧ (g.2.2.2.1.1 ≤ 2 ∧ ∀ k, k < g.2.2.2.1.1 → stV g.1.1.1 (g.2.2.2.1.2 k)) ∧ (g.2.2.2.2.1.1 ≤ 8 ∧ ∀ k, k < g.2.2.2.2.1.1 → g.2.2.2.2.1.2.1 k < 24 ∧ g.2.2.2.2.1.2.2 k ≤ 4) ∧ g.2.2.2.2.2.1 ≤ 200 ∧ ∀ k, k < g.2.2.2.2.2.1 → 32 ≤ (g.2.2.2.2.2.2 k).toInt ∧ (g.2.2.2.2.2.2 k).toInt ≤ 126
/-- the row of a remembered state -/
def stM (row : Nat → Int32) (off n : Nat) (x : St) : Prop := row off = nI x.1 ∧ row (off + 1) = x.2.1 ∧ ∀ i, i < n → row (off + (2 + i)) = x.2.2.1 i ∧ row (off + (8 + i)) = nI (x.2.2.2.1 i) ∧ row (off + (14 + i)) = nI (x.2.2.2.2 i)
/-- the reference holds g -/
def RM (B : Nat) (M : MM) (g : Sg) : Prop := TdM B M g.1.1 ∧ ShM B M g.1.2.1 ∧ (∀ f, f < 4 → M (B + 3) f = nI (g.1.2.2.1 f)) ∧ M B 5 = g.1.2.2.2 ∧ stM (M (B + 4)) 0 g.1.1.1 g.2.1 ∧ (M B 7 = nI g.2.2.1.1 ∧ ∀ k, k < g.2.2.1.1 → stM (M (B + 5)) (20 * k) g.1.1.1 (g.2.2.1.2 k)) ∧ (M B 9 = nI g.2.2.2.1.1 ∧ ∀ k, k < g.2.2.2.1.1 → stM (M (B + 6)) (20 * k) g.1.1.1 (g.2.2.2.1.2 k)) ∧ (M B 11 = nI g.2.2.2.2.1.1 ∧ ∀ k, k < g.2.2.2.2.1.1 → M (B + 7) (2 * k) = nI (g.2.2.2.2.1.2.1 k) ∧ M (B + 7) (2 * k + 1) = nI (g.2.2.2.2.1.2.2 k)) ∧ M B 14 = nI g.2.2.2.2.2.1 ∧ ∀ k, k < g.2.2.2.2.2.1 → M (B + 8) k = g.2.2.2.2.2.2 k
theorem RM.of {B : Nat} {M M' : MM} {g : Sg} (h : RM B M g) (hb : ∀ k, k = 0 ∨ k = 2 ∨ k = 5 ∨ k = 7 ∨ k = 9 ∨ k = 11 ∨ k = 14 → M' B k = M B k) (hc : ∀ c, B + 1 ≤ c → c ≤ B + 8 → M' c = M c) : RM B M' g := by
  obtain ⟨h1, h2, h3, h4, h5, ⟨h6, h7⟩, ⟨h8, h9⟩, ⟨ha, hb'⟩, hc', hd⟩ := h
  refine ⟨h1.of (hb 0 (by simp)) (hc _ (by omega) (by omega)), h2.of (hb 2 (by simp)) (hc _ (by omega) (by omega)), ?_, (hb 5 (by simp)).trans h4, ?_, ⟨(hb 7 (by simp)).trans h6, ?_⟩, ⟨(hb 9 (by simp)).trans h8, ?_⟩, ⟨(hb 11 (by simp)).trans ha, ?_⟩, (hb 14 (by simp)).trans hc', ?_⟩
  · rw [hc (B + 3) (by omega) (by omega)]; exact h3
  · rw [hc (B + 4) (by omega) (by omega)]; exact h5
  · rw [hc (B + 5) (by omega) (by omega)]; exact h7
  · rw [hc (B + 6) (by omega) (by omega)]; exact h9
  · rw [hc (B + 7) (by omega) (by omega)]; exact hb'
  · rw [hc (B + 8) (by omega) (by omega)]; exact hd
/-- the reference's call says r -/
def PM (B : Nat) (M : MM) (r : Int32 × Sg) : Int32 → MM → Prop := fun v M' => v = r.1 ∧ RM B M' r.2 ∧ ∀ c, c < B → M' c = M c
-- the calls
def isT (g : Sg) (i : Int32) : Bool := inB i (nI 0) (nI g.1.1.1 - nI 1)
def isS (g : Sg) (k : Int32) : Bool := inB k (nI 0) (nI g.1.2.1.1 - nI 1)
def isP (s : Int32) : Bool := inB s (nI 0) (nI 23)
def isF (f : Int32) : Bool := inB f (nI 0) (nI 3)
def cN (x : Int32) : Nat := x.toNatClampNeg
theorem cN_nI {j : Nat} (h : j < 2 ^ 31) : cN (nI j) = j := nI_clamp h
def d_write (g : Sg) (l : Int32) : Int32 × Sg := if inB l (nI 32) (nI 126) then (if g.2.2.2.2.2.1 = 200 then (-3, g) else (nI (g.2.2.2.2.2.1 + 1), (g.1, g.2.1, g.2.2.1, g.2.2.2.1, g.2.2.2.2.1, (g.2.2.2.2.2.1 + 1, fun k => if k = g.2.2.2.2.2.1 then l else g.2.2.2.2.2.2 k)))) else (-1, g)
def d_wipe (g : Sg) : Int32 × Sg := (nI g.2.2.2.2.2.1, (g.1, g.2.1, g.2.2.1, g.2.2.2.1, g.2.2.2.2.1, (0, g.2.2.2.2.2.2)))
def tnV (g : Sg) (i w : Nat) : Int32 := match w with
  | 0 => nI (g.1.1.2.1 i)
  | 1 => nI (g.2.1.2.2.2.1 i)
  | 2 => nI (g.2.1.2.2.2.2 i)
  | 3 => g.1.1.2.2.1 i
  | 4 => nI (g.1.1.2.2.2 i)
  | 5 => g.2.1.2.2.1 i
  | _ => bI (!lit g.1 g.2.1 i)
def d_tenant (g : Sg) (i w : Int32) : Int32 × Sg := (if isT g i && inB w (nI 0) (nI 6) then tnV g (cN i) (cN w) else -1, g)
def d_ship (g : Sg) (k w : Int32) : Int32 × Sg := (if isS g k && inB w (nI 0) (nI 1) then (if w = nI 0 then nI (g.1.2.1.2.1 (cN k)) else nI (g.1.2.1.2.2 (cN k))) else -1, g)
def d_stripe (g : Sg) (s w : Int32) : Int32 × Sg := (if isP s && inB w (nI 0) (nI 2) then (if w = nI 0 then nI (cl0 g.1 g.2.1 (cN s)) else if w = nI 2 then bI (bt g.2.1.2.1 (cN s)) else wN (wh g.1 g.2.1 (cN s))) else -1, g)
def rem (u : Pk) (x : St) : Pk := if u.1 = 8 then (8, fun k => if k = 7 then x else u.2 (k + 1)) else (u.1 + 1, fun k => if k = u.1 then x else u.2 k)
/-- an act: what was is remembered -/
def act (g : Sg) (x : St) : Sg := (g.1, x, rem g.2.2.1 g.2.1, g.2.2.2)
def goBy (o : To) (x : St) (n : Nat) : St := (x.1 + n, x.2.1, fun i => x.2.2.1 i + nI n * o.1.2.2.1 i, x.2.2.2)
def d_pass (g : Sg) (n : Int32) : Int32 × Sg := if inB n (nI 1) (nI 30) then (if g.2.1.1 + cN n ≤ 999 then (nI (g.2.1.1 + cN n), act g (goBy g.1 g.2.1 (cN n))) else (-2, g)) else (-1, g)
def less (a r : Int32) : Int32 := if r < a then a - r else nI 0
def d_pay (g : Sg) (i r : Int32) : Int32 × Sg := if isT g i && inB r (nI 1) (nI 99) then (less (g.2.1.2.2.1 (cN i)) r, act g (g.2.1.1, g.2.1.2.1, (fun k => if k = cN i then less (g.2.1.2.2.1 (cN i)) r else g.2.1.2.2.1 k), g.2.1.2.2.2)) else (-1, g)
def swp (f : Nat → Nat) (i j : Nat) : Nat → Nat := fun k => if k = j then f i else if k = i then f j else f k
def d_change (g : Sg) (i j : Int32) : Int32 × Sg := if isT g i && (isT g j && !decide (i = j)) then (nI (g.2.1.2.2.2.1 (cN j)), act g (g.2.1.1, g.2.1.2.1, g.2.1.2.2.1, swp g.2.1.2.2.2.1 (cN i) (cN j), swp g.2.1.2.2.2.2 (cN i) (cN j))) else (-1, g)
def d_smoke (g : Sg) (s : Int32) : Int32 × Sg := if isP s then (bI (!bt g.2.1.2.1 (cN s)), act g (g.2.1.1, g.2.1.2.1 ^^^ (nI 1 <<< (s &&& 31)), g.2.1.2.2)) else (-1, g)
def d_undo (g : Sg) : Int32 × Sg := if g.2.2.1.1 = 0 then (-2, g) else (nI (g.2.2.1.1 - 1), (g.1, g.2.2.1.2 (g.2.2.1.1 - 1), (g.2.2.1.1 - 1, g.2.2.1.2), g.2.2.2))
def d_seen (g : Sg) (s f : Int32) : Int32 × Sg := (if isP s && isF f then bI (decide (cl0 g.1 g.2.1 (cN s) + cN f < 4)) else -1, g)
def d_sign (g : Sg) (k f : Int32) : Int32 × Sg := (if isS g k && isF f then wN (sgn (cl0 g.1 g.2.1) (seb (g.1.2.1.2.1 (cN k)) (g.1.2.1.2.2 (cN k))) (cN f)) else -1, g)
def d_fleet (g : Sg) (f : Int32) : Int32 × Sg := (if f = -1 then bset (sur (cl0 g.1 g.2.1) g.1.2.1 3) g.1.2.1.1 else if isF f then bset (sur (cl0 g.1 g.2.1) g.1.2.1 (cN f)) g.1.2.1.1 else -1, g)
/-- how many ships are sure by the light of some, some panes smoked -/
def nS (o : To) (x : St) (li sm : Nat → Bool) (f : Nat) : Nat := cnt (sur (cof o.1 (pl x) li sm) o.2.1 f) o.2.1.1
def d_needed (g : Sg) (f : Int32) : Int32 × Sg := (if isF f then bset (fun i => decide (nS g.1 g.2.1 (fun j => lit g.1 g.2.1 j && !decide (j = i)) (bt g.2.1.2.1) (cN f) < nS g.1 g.2.1 (lit g.1 g.2.1) (bt g.2.1.2.1) (cN f))) g.1.1.1 else -1, g)
/-- a set of fewer -/
def bet (o : Option Nat) (m : Nat) : Bool := match o with
  | none => true
  | some q => decide (cnt m.testBit 6 < cnt q.testBit 6)
/-- of the sets below m the least that is fit -/
def lsF (ok : Nat → Bool) : Nat → Option Nat
  | 0 => none
  | m + 1 => if bet (lsF ok m) m && ok m then some m else lsF ok m
def d_least (g : Sg) (f : Int32) : Int32 × Sg := (if isF f then wI (lsF (fun m => decide (nS g.1 g.2.1 (lit g.1 g.2.1) (bt g.2.1.2.1) (cN f) ≤ nS g.1 g.2.1 (fun j => lit g.1 g.2.1 j && m.testBit j) (bt g.2.1.2.1) (cN f))) (2 ^ g.1.1.1)) else -1, g)
def smN (f : Nat → Nat) : Nat → Nat
  | 0 => 0
  | n + 1 => smN f n + f n
def smI (f : Nat → Int32) : Nat → Int32
  | 0 => nI 0
  | n + 1 => smI f n + f n
def lostS (o : To) (x : St) (sm : Nat → Bool) : Nat := smN (fun f => o.2.1.1 - nS o x (lit o x) sm f) 4
def rkF (on : Nat → Bool) (lost : Nat → Nat) : Nat → Option (Nat × Nat)
  | 0 => none
  | s + 1 => if on s then (match rkF on lost s with
    | none => some (s, lost s)
    | some q => if lost s < q.2 then some (s, lost s) else some q) else rkF on lost s
def rkS (o : To) (x : St) : Option (Nat × Nat) := rkF (fun s => !decide (cl0 o x s = 4)) (fun s => lostS o x (fun j => bt x.2.1 j || decide (j = s))) 24
def d_rock (g : Sg) (w : Int32) : Int32 × Sg := (if inB w (nI 0) (nI 1) then (if w = nI 0 then wN ((rkS g.1 g.2.1).map Prod.fst) else wN ((rkS g.1 g.2.1).map Prod.snd)) else -1, g)
def rwP (cl : Nat → Nat) (a b c : Int32) (s : Nat) : Bool := decide (nI (cl s) = a) && (decide (nI (cl ((s + 1) % 24)) = b) && decide (nI (cl ((s + 2) % 24)) = c))
def isC (c : Int32) : Bool := inB c (nI 0) (nI 4)
def d_row (g : Sg) (a b c w : Int32) : Int32 × Sg := (if isC a && (isC b && (isC c && inB w (nI 0) (nI 1))) then (if w = nI 0 then nI (cnt (rwP (cl0 g.1 g.2.1) a b c) 24) else wN (fst (rwP (cl0 g.1 g.2.1) a b c) 24)) else -1, g)
def d_look (g : Sg) (s c : Int32) : Int32 × Sg := if isP s && isC c then (if g.2.2.2.2.1.1 = 8 then (-3, g) else (nI (g.2.2.2.2.1.1 + 1), (g.1, g.2.1, g.2.2.1, g.2.2.2.1, (g.2.2.2.2.1.1 + 1, (fun k => if k = g.2.2.2.2.1.1 then cN s else g.2.2.2.2.1.2.1 k), fun k => if k = g.2.2.2.2.1.1 then cN c else g.2.2.2.2.1.2.2 k), g.2.2.2.2.2))) else (-1, g)
def d_forget (g : Sg) : Int32 × Sg := (nI g.2.2.2.2.1.1, (g.1, g.2.1, g.2.2.1, g.2.2.2.1, (0, g.2.2.2.2.1.2), g.2.2.2.2.2))
/-- all that was looked at would be so, were those behind m -/
def fit (o : To) (x : St) (l : Lk) (m : Nat) : Bool := allb (fun k => decide (cof o.1 (pl x) (fun i => !m.testBit i) (bt x.2.1) (l.2.1 k) = l.2.2 k)) l.1
def d_behind (g : Sg) (w : Int32) : Int32 × Sg := (if inB w (nI 0) (nI 1) then (if w = nI 0 then nI (cnt (fit g.1 g.2.1 g.2.2.2.2.1) (2 ^ g.1.1.1)) else wN (fst (fit g.1 g.2.1 g.2.2.2.2.1) (2 ^ g.1.1.1))) else -1, g)
def d_panes (g : Sg) : Int32 × Sg := (nI (cnt (fun s => anyb (fun k => decide (g.2.2.2.2.1.2.2 k = 4) && decide (g.2.2.2.2.1.2.1 k = s)) g.2.2.2.2.1.1 && (wh g.1 g.2.1 s).isSome) 24), g)
/-- tenths by which a ship is sure -/
def tth (o : To) (cl : Nat → Nat) (k : Nat) : Nat := smN (fun f => if sur cl o.2.1 f k then o.2.2.1 f else 0) 4
def low (a : Nat) (w : Int32) : Int32 := if w = nI 0 then nI (a / Nat.gcd a 10) else nI (10 / Nat.gcd a 10)
def d_odds (g : Sg) (k w : Int32) : Int32 × Sg := (if isS g k && inB w (nI 0) (nI 1) then low (tth g.1 (cl0 g.1 g.2.1) (cN k)) w else -1, g)
def d_mean (g : Sg) (w : Int32) : Int32 × Sg := (if inB w (nI 0) (nI 1) then low (smN (tth g.1 (cl0 g.1 g.2.1)) g.1.2.1.1) w else -1, g)
def d_owed (g : Sg) (w : Int32) : Int32 × Sg := (if inB w (nI 0) (nI 1) then (if w = nI 0 then smI g.2.1.2.2.1 g.1.1.1 else smI g.1.1.2.2.1 g.1.1.1) else -1, g)
/-- the fog that is drawn -/
def drw (z k : Nat) : Nat := ((7919 * z + 6151 * k + 1) * (7919 * z + 6151 * k + 1) % 65521 / 4) % 4
def wkS (o : To) (x : St) (z k : Nat) : Nat := nS o (goBy o x k) (lit o (goBy o x k)) (bt x.2.1) (drw z k)
def d_weeks (g : Sg) (z n w : Int32) : Int32 × Sg := (if inB z (nI 0) (nI 9999) && (inB n (nI 1) (nI 60) && inB w (nI 0) (nI 1)) then (if w = nI 0 then nI (cnt (fun k => decide (wkS g.1 g.2.1 (cN z) k = g.1.2.1.1)) (cN n)) else nI (smN (wkS g.1 g.2.1 (cN z)) (cN n))) else -1, g)
def d_keep (g : Sg) : Int32 × Sg := if g.2.2.2.1.1 = 2 then (-3, g) else (nI (g.2.2.2.1.1 + 1), (g.1, g.2.1, g.2.2.1, (g.2.2.2.1.1 + 1, fun k => if k = g.2.2.2.1.1 then g.2.1 else g.2.2.2.1.2 k), g.2.2.2.2))
def d_back (g : Sg) : Int32 × Sg := if g.2.2.2.1.1 = 0 then (-2, g) else (nI (g.2.2.2.1.1 - 1), (g.1, g.2.2.2.1.2 (g.2.2.2.1.1 - 1), (0, g.2.2.1.2), (g.2.2.2.1.1 - 1, g.2.2.2.1.2), g.2.2.2.2))
def ctV (g : Sg) (w : Nat) : Int32 := match w with
  | 0 => nI g.1.1.1
  | 1 => nI g.1.2.1.1
  | 2 => nI g.2.1.1
  | 3 => nI (cnt (bt g.2.1.2.1) 24)
  | 4 => nI (cnt (fun i => !lit g.1 g.2.1 i) g.1.1.1)
  | 5 => nI g.2.2.2.2.1.1
  | 6 => nI g.2.2.1.1
  | 7 => nI g.2.2.2.1.1
  | _ => nI g.2.2.2.2.2.1
def d_count (g : Sg) (w : Int32) : Int32 × Sg := (if inB w (nI 0) (nI 8) then ctV g (cN w) else -1, g)
