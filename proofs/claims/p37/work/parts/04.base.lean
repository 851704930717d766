/-! THE STATE: G: the tables and the addresses; a state: the class's -/
abbrev Gt : Type := (Nat → ClassId) × (Nat → Nat → Nat) × (Nat → Nat) × (Nat → ClassId) × (Nat → Nat) × (Nat → Prop)
abbrev gD (G : Gt) : va_G := (G.1, G.2.1)
abbrev gB (G : Gt) (k : Nat) : Nat := G.2.2.1 k
abbrev gC (G : Gt) (k : Nat) : ClassId := G.2.2.2.1 k
abbrev gE (G : Gt) (k : Nat) : Nat := G.2.2.2.2.1 k
/-- which cells the methods may change -/
def gA (G : Gt) : Nat → Prop := G.2.2.2.2.2
/-- a promise: stage, shelf (6: none), maker, life, age, heat; a shelf: setting, heat -/
abbrev Pr : Type := Nat × Nat × Int32 × Int32 × Int32 × Int32
abbrev Sh : Type := Int32 × Int32
/-- the class: shelves, promises, made, alarms, hours, power -/
abbrev Kx : Type := (Nat → Sh) × (Nat → Pr) × Int32 × Int32 × Int32 × Int32
abbrev St : Type := Kx × Unit
def shO (G : Gt) (k : Nat) : Option Nat := if k < 6 then some (gB G (3 + k)) else none
def eSh (G : Gt) (x : Sh) (k : Nat) : va_E := .inr (1, [.int (if k < 5 then nI k else -1), .int x.1, .int x.2])
def ePr (G : Gt) (x : Pr) : va_E := .inr (0, [.ref (gE G x.1), va_rf (shO G x.2.1), .int x.2.2.1, .int x.2.2.2.1, .int x.2.2.2.2.1, .int x.2.2.2.2.2])
def ent (G : Gt) (σ : St) : Nat → va_E
  | 0 => .inr (2, [.ref (gB G 1), .ref (gB G 2), .int σ.1.2.2.1, .int σ.1.2.2.2.1, .int σ.1.2.2.2.2.1, .int σ.1.2.2.2.2.2, .ref (gB G 8), .ref (gB G 29)])
  | 1 => .inl (gC G 1, 5, .inr (.inr (.inr (.inr (fun i => some (gB G (3 + i)))))))
  | 2 => .inl (gC G 2, 20, .inr (.inr (.inr (.inr (fun i => some (gB G (9 + i)))))))
  | k => if k < 9 then eSh G (σ.1.1 (k - 3)) (k - 3) else ePr G (σ.1.2.1 (k - 9))
def wl (G : Gt) (σ : St) : va_W := (List.range 30).map (fun k => (gB G k, ent G σ k))
abbrev tys (G : Gt) : List (ClassId × FieldType) := [(gC G 1, .object "PromiseShelves$Shelf"), (gC G 2, .object "PromiseShelves$Promise"), (gC G 4, .int), (gC G 5, .array .int), (gC G 6, .boolean)]
theorem wl_at (G : Gt) (σ : St) {k : Nat} (h : k < 30) : (wl G σ)[k]? = some (gB G k, ent G σ k) := by
  simp [wl, List.getElem?_map, List.getElem?_range h]
theorem ent_S (G : Gt) (σ : St) {i : Nat} (h : i < 6) : ent G σ (3 + i) = eSh G (σ.1.1 i) i := by
  rcases (show i = 0 ∨ i = 1 ∨ i = 2 ∨ i = 3 ∨ i = 4 ∨ i = 5 by omega) with rfl | rfl | rfl | rfl | rfl | rfl <;> rfl
theorem ent_ge (G : Gt) (σ : St) {k : Nat} (h : 9 ≤ k) : ent G σ k = ePr G (σ.1.2.1 (k - 9)) := by
  unfold ent
  split
  all_goals first
    | omega
    | exact if_neg (by omega)
theorem ent_P (G : Gt) (σ : St) (i : Nat) : ent G σ (9 + i) = ePr G (σ.1.2.1 i) := by
  rw [ent_ge G σ (by omega), Nat.add_sub_cancel_left]
theorem ent_mid (G : Gt) (σ : St) {k : Nat} (h : 3 ≤ k) (h2 : k < 9) : ent G σ k = eSh G (σ.1.1 (k - 3)) (k - 3) := by
  have := ent_S G σ (i := k - 3) (by omega)
  rw [show 3 + (k - 3) = k by omega] at this
  exact this
theorem wl_P (G : Gt) (σ : St) {i : Nat} (h : i < 21) : (wl G σ)[9 + i]? = some (gB G (9 + i), ePr G (σ.1.2.1 i)) := by rw [wl_at G σ (by omega), ent_P]
theorem wl_S (G : Gt) (σ : St) {i : Nat} (h : i < 6) : (wl G σ)[3 + i]? = some (gB G (3 + i), eSh G (σ.1.1 i) i) := by rw [wl_at G σ (by omega), ent_S G σ h]
theorem wl_set (G : Gt) (σ σ' : St) {k : Nat} {e : va_E} (h : k < 30) (he : ent G σ' k = e) (ho : ∀ j, j < 30 → j ≠ k → ent G σ' j = ent G σ j) : (wl G σ).set k (gB G k, e) = wl G σ' := by
  apply List.ext_getElem?
  intro j
  by_cases hj : j = k
  · subst hj
    rw [List.getElem?_set_self (by simp [wl]; exact h), wl_at G σ' h, he]
  · rw [List.getElem?_set_ne (Ne.symm hj)]
    by_cases h2 : j < 30
    · rw [wl_at G σ h2, wl_at G σ' h2, ho j h2 hj]
    · have l1 : (wl G σ)[j]? = none := by rw [List.getElem?_eq_none_iff]; simp [wl]; omega
      have l2 : (wl G σ')[j]? = none := by rw [List.getElem?_eq_none_iff]; simp [wl]; omega
      rw [l1, l2]
/-! setters -/
def setS (σ : St) (i : Nat) (x : Sh) : St := ((va_up σ.1.1 i x, σ.1.2), σ.2)
def setP (σ : St) (i : Nat) (x : Pr) : St := ((σ.1.1, va_up σ.1.2.1 i x, σ.1.2.2), σ.2)
/-- made, alarms, hours, power -/
def setX (σ : St) (x : Int32 × Int32 × Int32 × Int32) : St := ((σ.1.1, σ.1.2.1, x), σ.2)
abbrev gS (σ : St) (i : Nat) : Sh := σ.1.1 i
abbrev gP (σ : St) (i : Nat) : Pr := σ.1.2.1 i
abbrev gX (σ : St) : Int32 × Int32 × Int32 × Int32 := σ.1.2.2
theorem gS_setS (σ : St) (i : Nat) (x : Sh) : gS (setS σ i x) i = x := va_up_self _ _ _
theorem gS_setS_ne (σ : St) {i j : Nat} (x : Sh) (h : j ≠ i) : gS (setS σ i x) j = gS σ j := va_up_ne _ _ h
theorem gP_setP (σ : St) (i : Nat) (x : Pr) : gP (setP σ i x) i = x := va_up_self _ _ _
theorem gP_setP_ne (σ : St) {i j : Nat} (x : Pr) (h : j ≠ i) : gP (setP σ i x) j = gP σ j := va_up_ne _ _ h
theorem gS_setP (σ : St) (i j : Nat) (x : Pr) : gS (setP σ i x) j = gS σ j := rfl
theorem gP_setS (σ : St) (i j : Nat) (x : Sh) : gP (setS σ i x) j = gP σ j := rfl
theorem setS_setS (σ : St) (i : Nat) (x y : Sh) : setS (setS σ i x) i y = setS σ i y := by simp only [setS, bx_uu]
theorem setP_setP (σ : St) (i : Nat) (x y : Pr) : setP (setP σ i x) i y = setP σ i y := by simp only [setP, bx_uu]
theorem va_up_same {α : Type} (f : Nat → α) (k : Nat) : va_up f k (f k) = f := by funext j; by_cases h : j = k <;> simp [va_up, h]
theorem setS_same (σ : St) (i : Nat) : setS σ i (gS σ i) = σ := by simp only [setS, va_up_same]
theorem setP_same (σ : St) (i : Nat) : setP σ i (gP σ i) = σ := by simp only [setP, va_up_same]
theorem set_S (G : Gt) (σ : St) {i : Nat} (h : i < 6) (x : Sh) : (wl G σ).set (3 + i) (gB G (3 + i), eSh G x i) = wl G (setS σ i x) := by
  refine wl_set G σ _ (by omega) (by rw [ent_S G _ h]; exact congrArg (fun z => eSh G z i) (va_up_self _ _ _)) ?_
  intro j hj hne
  rcases Nat.lt_or_ge j 3 with h9 | h9
  · rcases (show j = 0 ∨ j = 1 ∨ j = 2 by omega) with rfl | rfl | rfl <;> rfl
  rcases Nat.lt_or_ge j 9 with h15 | h15
  · rw [ent_mid G _ h9 h15, ent_mid G _ h9 h15]
    exact congrArg (fun z => eSh G z (j - 3)) (va_up_ne _ _ (by omega))
  · rw [ent_ge G _ h15, ent_ge G _ h15]; rfl
theorem set_P (G : Gt) (σ : St) {i : Nat} (h : i < 21) (x : Pr) : (wl G σ).set (9 + i) (gB G (9 + i), ePr G x) = wl G (setP σ i x) := by
  refine wl_set G σ _ (by omega) (by rw [ent_P]; exact congrArg (fun z => ePr G z) (va_up_self _ _ _)) ?_
  intro j hj hne
  rcases Nat.lt_or_ge j 3 with h9 | h9
  · rcases (show j = 0 ∨ j = 1 ∨ j = 2 by omega) with rfl | rfl | rfl <;> rfl
  rcases Nat.lt_or_ge j 9 with h15 | h15
  · rw [ent_mid G _ h9 h15, ent_mid G _ h9 h15]; rfl
  · rw [ent_ge G _ h15, ent_ge G _ h15]
    exact congrArg (fun z => ePr G z) (va_up_ne _ _ (by omega))
/-- any other cell: the tail of the world is the same -/
theorem set_k (G : Gt) (σ σ' : St) {k : Nat} {e : va_E} (h : k < 3) (he : ent G σ' k = e) (h1 : σ'.1.1 = σ.1.1) (h2 : σ'.1.2.1 = σ.1.2.1) (ho : ∀ j, j < 3 → j ≠ k → ent G σ' j = ent G σ j) : (wl G σ).set k (gB G k, e) = wl G σ' := by
  refine wl_set G σ σ' (by omega) he ?_
  intro j hj hne
  rcases Nat.lt_or_ge j 3 with h9 | h9
  · exact ho j h9 hne
  rcases Nat.lt_or_ge j 9 with h15 | h15
  · rw [ent_mid G _ h9 h15, ent_mid G _ h9 h15, h1]
  · rw [ent_ge G _ h15, ent_ge G _ h15, h2]
/-! the words that every method has -/
def isNest : Cond → Bool
  | .fieldLinkNest .. => true
  | .methodLinkNest .. => true
  | .castable .. => true
  | .declares .. => true
  | _ => false
def AL : List Cond := lw_tbl.filter goodWord
def NW : List Cond := lw_tbl.filter isNest
theorem al {w : Cond} (h : w ∈ lw_tbl) (g : goodWord w = true) : w ∈ AL := List.mem_filter.mpr ⟨h, g⟩
theorem al_tbl {w : Cond} (h : w ∈ AL) : w ∈ lw_tbl := (List.mem_filter.mp h).1
theorem al_good {w : Cond} (h : w ∈ AL) : (w.onTables && w.keeps) = true ∨ ∃ ty, w = .arrayClass ty := good_of_word (List.mem_filter.mp h).2
theorem al_in : GoodIn AL AL := fun _ h => ⟨h, al_good h⟩
theorem alX0 : ∀ w ∈ wsX00, w ∈ AL := fun w h => al (inX0 w h) (by revert w; decide +kernel)
theorem alX1 : ∀ w ∈ wsX10, w ∈ AL := fun w h => al (inX1 w h) (by revert w; decide +kernel)
theorem alX3 : ∀ w ∈ wsX30, w ∈ AL := fun w h => al (inX3 w h) (by revert w; decide +kernel)
theorem alX4 : ∀ w ∈ wsX40, w ∈ AL := fun w h => al (inX4 w h) (by revert w; decide +kernel)
/-! what stays: tables, statics, strings -/
def enName : Nat → String
  | 0 => "UNMADE"
  | 1 => "FRESH"
  | 2 => "FROZEN"
  | 3 => "THAWED"
  | 4 => "KEPT"
  | _ => "EXPIRED"
def enD : String := "LPromiseShelves$Stage;"
def strs : List (Nat × String) := [(111, "a setting is -30 to -5"), (208, "a maker is 0 to 5"), (211, "hours are 1 to 100"), (213, "a shelf is 0 to 4"), (215, "there is no such promise"), (56, "a life is 1 to 100 hours"), (63, "there are 20 promises"), (80, "the promise lies on no shelf"), (82, "the promise lies on this shelf"), (93, "the promise is thawed")]
/-- arrays of int[] can be made -/
def gO (U : State) : Prop := (Cond.arrayOver (.array .int)).before #[] U = true
theorem gO.moved {u U : State} (hvm : u.vm.Alike U.vm) (h : gO u) : gO U := by
  obtain ⟨comp, c, k, h1, h2, h3, h4, h5⟩ := arrayOverA_spec (t := .int) (show (Cond.arrayOver (.array .int)).holds #[] u none u [] = true from h)
  obtain ⟨k', hk', he⟩ := hvm.2.2 _ _ h3
  have hi : (U.vm.classes.findIdx? fun (x : Class) => match x.kind with | .array component _ => component == comp | _ => false) = some c := by
    rw [hvm.findIdx?_eq _ (fun _ => rfl)]
    exact h2
  have hkind : k'.kind = .array comp (.array .int) := by rw [he]; exact h4
  have f1 : U.vm.findClass (FieldType.array .int).toString = some comp := by rw [hvm.findClass]; exact h1
  have f2 : U.vm.findClass ("[" ++ (FieldType.array .int).toString) = some c := by rw [hvm.findClass]; exact h5
  unfold gO Cond.before Cond.holds
  simp only [Cond.value]
  rw [f1, Option.bind_some]
  refine (congrArg (fun o : Option Nat => (o.bind (fun c => (U.vm.classes[c]?).map fun (k : Class) => match k.kind with | .array _ ty => decide (ty = FieldType.array .int) && decide (U.vm.findClass ("[" ++ (FieldType.array .int).toString) = some c) | _ => false) == some true)) hi).trans ?_
  simp [hk', hkind, f2]
/-- the class of int[][]: its component is that of int[] -/
def gK (cG cI : ClassId) (U : State) : Prop := gO U ∧ ∃ kA kI : Class, U.vm.classes[cG]? = some kA ∧ kA.kind = .array cI (.array .int) ∧ U.vm.classes[cI]? = some kI
theorem gK.moved {cG cI : ClassId} {u U : State} (hvm : u.vm.Alike U.vm) (h : gK cG cI u) : gK cG cI U := by
  obtain ⟨h0, kA, kI, h1, h2, h3⟩ := h
  obtain ⟨kA2, g1, e1⟩ := hvm.2.2 _ _ h1
  obtain ⟨kI2, g2, -⟩ := hvm.2.2 _ _ h3
  exact ⟨h0.moved hvm, kA2, kI2, g1, by rw [e1]; exact h2, g2⟩
/-- the law's script lies at gE G 6, and nobody writes it -/
def gScr (G : Gt) (U : State) : Prop := ∃ (L : Nat) (xs : Nat → Int32), L ≤ 260 ∧ va_X (gE G 6) L xs U U.heap ∧ gE G 6 < U.heap.size ∧ ¬ gA G (gE G 6)
def Ev (G : Gt) (U : State) : Prop :=
  ((∀ i j : Nat, i < 30 → j < 30 → gB G i = gB G j → i = j) ∧ (∀ i : Nat, i < 30 → gA G (gB G i)) ∧ (∀ i j : Nat, i < 6 → j < 6 → gE G i = gE G j → i = j)) ∧ (∀ q : Nat, U.heap.size ≤ q → gA G q) ∧ va_K (gD G) vwCl (tys G) U ∧
  (∀ k, k < 6 → va_Z RX2 (enName k) enD (.ref (gE G k)) (gA G) U U.heap) ∧ vx_Zq Bundle.tN "UNASSIGNED_STACK" Bundle.steD (gA G) U U.heap ∧ vx_Zq Bundle.tN "SUPPRESSED_SENTINEL" Bundle.listD (gA G) U U.heap ∧
  ((∀ q ∈ strs, ∃ a, vk_R RX3 q.1 q.2 a U) ∧ (gK (gC G 5) (gC G 4) U ∧ gScr G U)) ∧ ∀ w ∈ NW, va_Nw w U
theorem nw_warm {w : Cond} (h : w ∈ NW) {s U : State} (hW : s.WarmedH U.vm) (hZ : va_Nw w s) : va_Nw w U := by
  have h2 := (List.mem_filter.mp h).2
  cases w with
  | fieldLinkNest => exact va_Nw.warmF hW hZ
  | methodLinkNest => exact va_Nw.warmM hW hZ
  | castable => exact va_Nw.warmC hW hZ
  | declares => exact va_Nw.warmD hW hZ
  | _ => cases h2
theorem env_go {G : Gt} {s U : State} {H : Heap} {locs : List Loc} (hW : s.WarmedH U.vm) (hU : U.heap = H) (hS : va_S (gA G) s.heap H locs) (h : Ev G s) : Ev G U := by
  obtain ⟨h0, h1, h2, h3, h4, h5, h6, h7⟩ := h
  have hk : ∀ a : Nat, a < s.heap.size → ¬ gA G a → U.heap[a]? = s.heap[a]? := fun a x y => by rw [hU]; exact hS.2.1 a x y
  exact ⟨h0, fun q hq => h1 q (Nat.le_trans hS.1 (by rw [hU] at hq; exact hq)), va_K.moved hW.alike h2, fun k hk6 => ((h3 k hk6).moved hW.alike).kept hk, (h4.moved hW.alike).kept hk, (h5.moved hW.alike).kept hk, ⟨fun q hq => by
    obtain ⟨a, ha⟩ := h6.1 q hq
    exact ⟨a, vk_R.warm hW ha⟩, h6.2.1.moved hW.alike, by
    obtain ⟨L, xs, k1, k2, k3, k4⟩ := h6.2.2
    exact ⟨L, xs, k1, (k2.kept (hk _ k3 k4)).moved hW.alike, by have := hS.1; rw [hU]; omega, k4⟩⟩, fun w hw => nw_warm hw hW (h7 w hw)⟩
theorem env_same {G : Gt} {s U : State} (hv : U.vm = s.vm) (hh : U.heap = s.heap) (h : Ev G s) : Ev G U := by
  refine env_go (H := s.heap) (locs := []) ?_ hh va_S.rf h
  rw [hv]
  exact State.WarmedH.refl s
/-- a method's start: the world in the state σ -/
def Wd (G : Gt) (σ : St) (U : State) : Prop := Ev G U ∧ va_P (gD G) vwCl (wl G σ) U.heap
/-- a method's end -/
def We (G : Gt) (σ : St) (t : State) : Prop := va_P (gD G) vwCl (wl G σ) t.heap
/-- within a method -/
def Iv (G : Gt) (σ : St) (s : State) (H : Heap) (locs : List Loc) : Prop := Ev G s ∧ va_P (gD G) vwCl (wl G σ) H ∧ va_S (gA G) s.heap H locs
theorem wl_D {G : Gt} {s : State} (h : Ev G s) (σ : St) : va_D (gA G) (wl G σ) := by
  obtain ⟨⟨hi, hb, -⟩, -⟩ := h
  have lt : ∀ (k : Nat) (q : Nat × va_E), (wl G σ)[k]? = some q → k < 30 := fun k q hq => by
    have := (List.getElem?_eq_some_iff.mp hq).1
    simpa [wl] using this
  refine ⟨fun i j p q hp hq e => ?_, fun k q hq => ?_⟩
  · have h1 := lt i p hp
    have h2 := lt j q hq
    rw [wl_at G σ h1] at hp
    rw [wl_at G σ h2] at hq
    cases hp; cases hq
    exact hi i j h1 h2 e
  · have h1 := lt k q hq
    rw [wl_at G σ h1] at hq
    cases hq
    exact hb k h1
theorem Iv.D {G : Gt} {σ : St} {s : State} {H : Heap} {locs : List Loc} (h : Iv G σ s H locs) : va_D (gA G) (wl G σ) := wl_D h.1 σ
theorem Iv.K {G : Gt} {σ : St} {s : State} {H : Heap} {locs : List Loc} (h : Iv G σ s H locs) : va_K (gD G) vwCl (tys G) s := h.1.2.2.1
theorem Iv.hA {G : Gt} {σ : St} {s : State} {H : Heap} {locs : List Loc} (h : Iv G σ s H locs) : ∀ q : Nat, s.heap.size ≤ q → gA G q := h.1.2.1
theorem Iv.nw {G : Gt} {σ : St} {s : State} {H : Heap} {locs : List Loc} (h : Iv G σ s H locs) {w : Cond} (hw : w ∈ NW) (ho : w.onTables = true) {A : Array Value} : w.before A s = true := va_Nw.use ho (h.1.2.2.2.2.2.2.2 w hw)
