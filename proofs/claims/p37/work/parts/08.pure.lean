/-! WHAT THE METHODS RECKON, as functions -/
def mn (x y : Int32) : Int32 := if y < x then y else x
def mx (x y : Int32) : Int32 := if x < y then y else x
def openH (h : Int32) : Int32 := mn (h + 2) 20
def hourS (pw : Int32) (x : Sh) : Sh := (x.1, if pw = 0 then mn (x.2 + 1) 20 else if x.1 ≤ x.2 then mx (x.2 - 2) x.1 else mn (x.2 + 2) x.1)
def draw (to h : Int32) : Int32 := h + (if (to - h) / 2 = 0 then to - h else (to - h) / 2)
def cool (h : Int32) (g : Nat) : Nat := if g = 2 ∧ ¬ h ≤ -4 then 3 else if g = 1 ∧ ¬ -10 < h then 2 else g
def older (x : Pr) : Pr := if x.1 = 2 then x else if x.2.2.2.2.1 + 1 < x.2.2.2.1 then (x.1, x.2.1, x.2.2.1, x.2.2.2.1, x.2.2.2.2.1 + 1, x.2.2.2.2.2) else (5, 6, x.2.2.1, x.2.2.2.1, x.2.2.2.2.1 + 1, x.2.2.2.2.2)
def hourP (to : Int32) (x : Pr) : Pr := if x.2.1 < 6 then older (cool (draw to x.2.2.2.2.2) x.1, x.2.1, x.2.2.1, x.2.2.2.1, x.2.2.2.2.1, draw to x.2.2.2.2.2) else x
def ringP (to : Int32) (x : Pr) : Int32 := if x.2.1 < 6 ∧ x.1 = 2 ∧ ¬ draw to x.2.2.2.2.2 ≤ -4 then 1 else 0
def sumN (f : Nat → Int32) : Nat → Int32
  | 0 => 0
  | k + 1 => sumN f k + f k
theorem pEta (x : Pr) : x = (x.1, x.2.1, x.2.2.1, x.2.2.2.1, x.2.2.2.2.1, x.2.2.2.2.2) := rfl
theorem sEta (x : Sh) : x = (x.1, x.2) := rfl
theorem xEta (x : Int32 × Int32 × Int32 × Int32) : x = (x.1, x.2.1, x.2.2.1, x.2.2.2) := rfl
/-- the trial shelf and promise may be anything behind it -/
def TT (σ : St) (q : Sh) (x : Pr) : St := setP (setS σ 5 q) 20 x
def Tr (σ σ' : St) : Prop := ∃ (q : Sh) (x : Pr), σ' = TT σ q x
theorem Tr.rf (σ : St) : Tr σ σ := ⟨gS σ 5, gP σ 20, by simp only [TT, setS_same]; exact (setP_same σ 20).symm⟩
theorem TT_TT (σ : St) (q q' : Sh) (x x' : Pr) : TT (TT σ q x) q' x' = TT σ q' x' := by
  show setP (setS (setP (setS σ 5 q) 20 x) 5 q') 20 x' = _
  rw [show setS (setP (setS σ 5 q) 20 x) 5 q' = setP (setS (setS σ 5 q) 5 q') 20 x from rfl, setS_setS, setP_setP]
  rfl
theorem Tr.trans {a b c : St} (h1 : Tr a b) (h2 : Tr b c) : Tr a c := by
  obtain ⟨q, x, rfl⟩ := h1
  obtain ⟨q', x', rfl⟩ := h2
  exact ⟨q', x', TT_TT a q q' x x'⟩
theorem Tr.P {a b : St} (h : Tr a b) {i : Nat} (hi : i < 20) : gP b i = gP a i := by
  obtain ⟨q, x, rfl⟩ := h
  exact gP_setP_ne _ _ (by omega)
theorem Tr.S {a b : St} (h : Tr a b) {i : Nat} (hi : i < 5) : gS b i = gS a i := by
  obtain ⟨q, x, rfl⟩ := h
  exact gS_setS_ne _ _ (by omega)
theorem Tr.X {a b : St} (h : Tr a b) : gX b = gX a := by
  obtain ⟨q, x, rfl⟩ := h
  rfl
theorem Tr.M {a b : St} (h : Tr a b) : b.2 = a.2 := by
  obtain ⟨q, x, rfl⟩ := h
  rfl
def tr1 (pw : Int32) (z : Sh × Pr) : Sh × Pr := (hourS pw z.1, hourP (hourS pw z.1).2 z.2)
def trN (pw : Int32) : Nat → Sh × Pr → Sh × Pr
  | 0, z => z
  | n + 1, z => tr1 pw (trN pw n z)
/-- does it ring in the hour n? -/
def rgN (pw : Int32) (z : Sh × Pr) : Nat → Bool
  | 0 => false
  | n + 1 => ringP (hourS pw (trN pw n z).1).2 (trN pw n z).2 == 1
def fst1 (P : Nat → Bool) : Nat → Nat → Int32
  | 0, _ => -1
  | n + 1, k => if P k = true then nI k else fst1 P n (k + 1)
def trial (x : Pr) : Pr := (x.1, 5, x.2.2)
def hUntil (pw : Int32) (q : Sh) (x : Pr) (g : Nat) : Int32 := if x.1 = g then 0 else if x.2.1 < 6 then fst1 (fun n => decide ((trN pw n (q, trial x)).2.1 = g)) 200 1 else -1
def liesN (pw : Int32) (q : Sh) (x : Pr) (h : Nat) : Int32 := if x.2.1 < 6 then (if (trN pw h (q, trial x)).2.2.1 < 6 then 1 else 0) else 0
def newP : Pr := (1, 5, 0, 100, 0, 20)
def freezeN (pw : Int32) (q : Sh) : Int32 := fst1 (fun n => decide ((trN pw n ((q.1, openH q.2), newP)).2.1 = 2)) 200 1
def alarmN (q : Sh) (x : Pr) : Int32 := if x.2.1 < 6 then fst1 (rgN 0 (q, trial x)) 200 1 else -1
def sooner (a b : Int32) : Bool := decide (¬ a = -1 ∧ (b = -1 ∨ ¬ b ≤ a))
/-- the stages are stages, the shelves are shelves -/
def okP (σ : St) : Prop := ∀ i, i < 20 → (gP σ i).1 < 6 ∧ ((gP σ i).2.1 < 5 ∨ (gP σ i).2.1 = 6)
theorem okP.tr {a b : St} (h : okP a) (t : Tr a b) : okP b := fun i hi => by rw [t.P hi]; exact h i hi
theorem cool_lt {h : Int32} {g : Nat} (hg : g < 6) : cool h g < 6 := by unfold cool; split <;> (try split) <;> omega
theorem older_g {x : Pr} (h : x.1 < 6) : (older x).1 < 6 := by unfold older; split <;> (try split) <;> first | exact h | exact (show (5 : Nat) < 6 by decide)
theorem hourP_g {to : Int32} {x : Pr} (h : x.1 < 6) : (hourP to x).1 < 6 := by
  unfold hourP
  split
  · exact older_g (cool_lt h)
  · exact h
theorem older_s (x : Pr) : (older x).2.1 = x.2.1 ∨ (older x).2.1 = 6 := by unfold older; split <;> (try split) <;> first | exact Or.inl rfl | exact Or.inr rfl
theorem hourP_s (to : Int32) (x : Pr) : (hourP to x).2.1 = x.2.1 ∨ (hourP to x).2.1 = 6 := by
  unfold hourP
  split
  · exact older_s _
  · exact Or.inl rfl
/-- an hour of the class -/
def xS (σ : St) (k : Nat) : Nat → Sh := fun i => if i < k then hourS (gX σ).2.2.2 (gS σ i) else gS σ i
def xP (σ : St) (k : Nat) : Nat → Pr := fun i => if i < k then hourP (xS σ 5 (gP σ i).2.1).2 (gP σ i) else gP σ i
def xR (σ : St) : Nat → Int32 := fun i => ringP (xS σ 5 (gP σ i).2.1).2 (gP σ i)
def xH (σ : St) (a b : Nat) (h : Int32) : St := ((xS σ a, xP σ b, (gX σ).1, (gX σ).2.1 + sumN (xR σ) b, (gX σ).2.2.1 + h, (gX σ).2.2.2), σ.2)
def hourX (σ : St) : St := xH σ 5 20 1
theorem sumN_0 (f : Nat → Int32) : sumN f 0 = 0 := rfl
theorem sumN_s (f : Nat → Int32) (k : Nat) : sumN f (k + 1) = sumN f k + f k := rfl
theorem xH_0 (σ : St) : xH σ 0 0 0 = σ := by
  have e1 : xS σ 0 = σ.1.1 := by funext i; simp [xS]
  have e2 : xP σ 0 = σ.1.2.1 := by funext i; simp [xP]
  simp only [xH, e1, e2, sumN_0, Int32.add_zero]
theorem xH_S (σ : St) (k : Nat) : setS (xH σ k 0 0) k (hourS (gX σ).2.2.2 (gS σ k)) = xH σ (k + 1) 0 0 := by
  have e1 : va_up (xS σ k) k (hourS (gX σ).2.2.2 (gS σ k)) = xS σ (k + 1) := by
    funext i
    by_cases h : i = k
    · subst h; rw [va_up_self]; simp [xS]
    · rw [va_up_ne _ _ h]; unfold xS
      by_cases h2 : i < k
      · rw [if_pos h2, if_pos (by omega)]
      · rw [if_neg h2, if_neg (by omega)]
  show ((va_up (xS σ k) k _, _), _) = _
  rw [e1]
  rfl
theorem xH_gS (σ : St) (a b : Nat) (h : Int32) (i : Nat) : gS (xH σ a b h) i = xS σ a i := rfl
theorem xH_gP (σ : St) (a b : Nat) (h : Int32) (i : Nat) : gP (xH σ a b h) i = xP σ b i := rfl
theorem xS_ge (σ : St) {k i : Nat} (h : k ≤ i) : xS σ k i = gS σ i := if_neg (by omega)
theorem xP_ge (σ : St) {k i : Nat} (h : k ≤ i) : xP σ k i = gP σ i := if_neg (by omega)
theorem xH_P (σ : St) (k : Nat) : setX (setP (xH σ 5 k 0) k (hourP (xS σ 5 (gP σ k).2.1).2 (gP σ k))) ((gX σ).1, (gX σ).2.1 + sumN (xR σ) k + xR σ k, (gX σ).2.2.1 + 0, (gX σ).2.2.2) = xH σ 5 (k + 1) 0 := by
  have e1 : va_up (xP σ k) k (hourP (xS σ 5 (gP σ k).2.1).2 (gP σ k)) = xP σ (k + 1) := by
    funext i
    by_cases h : i = k
    · subst h; rw [va_up_self]; simp [xP]
    · rw [va_up_ne _ _ h]; unfold xP
      by_cases h2 : i < k
      · rw [if_pos h2, if_pos (by omega)]
      · rw [if_neg h2, if_neg (by omega)]
  show ((xS σ 5, va_up (xP σ k) k _, _), _) = _
  rw [e1, Int32.add_assoc]
  rfl
def hourXs : Nat → St → St
  | 0, σ => σ
  | n + 1, σ => hourX (hourXs n σ)
