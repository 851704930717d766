/-! THE WIDER WORLD: any list of cells, all of them apart; the class's cells come first in it -/
def Jw (G : Gt) (ws : va_W) (s : State) (H : Heap) (locs : List Loc) : Prop := Ev G s ∧ va_P (gD G) vwCl ws H ∧ va_D (gA G) ws ∧ va_S (gA G) s.heap H locs
abbrev Ww (G : Gt) (ws : va_W) (U : State) : Prop := Ev G U ∧ va_P (gD G) vwCl ws U.heap ∧ va_D (gA G) ws
abbrev We2 (G : Gt) (ws : va_W) (t : State) : Prop := va_P (gD G) vwCl ws t.heap ∧ va_D (gA G) ws
/-- the callee may not touch what stands in Z -/
def cutZ (G : Gt) (Z : va_W) : Gt := (G.1, G.2.1, G.2.2.1, G.2.2.2.1, G.2.2.2.2.1, fun q => G.2.2.2.2.2 q ∧ ∀ x ∈ Z, x.1 ≠ q)
theorem al_ints : Cond.arrayClass .int ∈ AL := al (by decide +kernel) rfl
theorem al_bools : Cond.arrayClass .boolean ∈ AL := al (by decide +kernel) rfl
theorem wl_len (G : Gt) (σ : St) : (wl G σ).length = 30 := by simp [wl]
theorem wl_fst (G : Gt) (σ σ' : St) : (wl G σ').map Prod.fst = (wl G σ).map Prod.fst := by simp [wl]
theorem va_Dfst {A : Nat → Prop} {ws ws' : va_W} (hD : va_D A ws) (h : ws'.map Prod.fst = ws.map Prod.fst) : va_D A ws' := by
  have key : ∀ (i : Nat) (x : Nat × va_E), ws'[i]? = some x → ∃ y : Nat × va_E, ws[i]? = some y ∧ y.1 = x.1 := by
    intro i x hx
    have h1 : (ws'.map Prod.fst)[i]? = some x.1 := by rw [List.getElem?_map, hx]; rfl
    rw [h, List.getElem?_map] at h1
    cases hy : ws[i]? with
    | none => rw [hy] at h1; cases h1
    | some y => rw [hy] at h1; exact ⟨y, rfl, Option.some.inj h1⟩
  refine ⟨fun i j x y hx hy e9 => ?_, fun k x hx => ?_⟩
  · obtain ⟨x1, h1, h2⟩ := key i x hx
    obtain ⟨y1, h3, h4⟩ := key j y hy
    exact hD.1 i j x1 y1 h1 h3 (h2.trans (e9.trans h4.symm))
  · obtain ⟨x1, h1, h2⟩ := key k x hx
    rw [← h2]
    exact hD.2 k x1 h1
theorem va_Pmem {D : va_G} {ws : va_W} {H : Heap} (h : va_P D vwCl ws H) {x : Nat × va_E} (hx : x ∈ ws) : va_at D vwCl x H := by
  obtain ⟨i, hi⟩ := List.getElem?_of_mem hx
  exact h i x hi
theorem va_Pof {D : va_G} {ws : va_W} {H : Heap} (h : ∀ x ∈ ws, va_at D vwCl x H) : va_P D vwCl ws H := fun _ x hk => h x (List.mem_of_getElem? hk)
/-- a world by its members: apart is that no address stands twice -/
theorem va_Dnd {A : Nat → Prop} {ws : va_W} : va_D A ws ↔ (ws.map Prod.fst).Nodup ∧ ∀ x ∈ ws, A x.1 := by
  constructor
  · intro h
    refine ⟨?_, fun x hx => ?_⟩
    · rw [List.nodup_iff_pairwise_ne, List.pairwise_iff_getElem]
      intro i j hi hj hij e9
      rw [List.length_map] at hi hj
      rw [List.getElem_map, List.getElem_map] at e9
      have := h.1 i j _ _ (List.getElem?_eq_getElem hi) (List.getElem?_eq_getElem hj) e9
      omega
    · obtain ⟨i, hi⟩ := List.getElem?_of_mem hx
      exact h.2 i x hi
  · rintro ⟨h1, h2⟩
    rw [List.nodup_iff_pairwise_ne, List.pairwise_iff_getElem] at h1
    refine ⟨fun i j x y hx hy e9 => ?_, fun k x hx => h2 x (List.mem_of_getElem? hx)⟩
    obtain ⟨hi, ei⟩ := List.getElem?_eq_some_iff.mp hx
    obtain ⟨hj, ej⟩ := List.getElem?_eq_some_iff.mp hy
    rcases Nat.lt_trichotomy i j with hl | hl | hl
    · refine absurd ?_ (h1 i j (by rw [List.length_map]; exact hi) (by rw [List.length_map]; exact hj) hl)
      rw [List.getElem_map, List.getElem_map, ei, ej, e9]
    · exact hl
    · refine absurd ?_ (h1 j i (by rw [List.length_map]; exact hj) (by rw [List.length_map]; exact hi) hl)
      rw [List.getElem_map, List.getElem_map, ei, ej, e9]
/-- out of a world another one, of some of its cells in another order -/
theorem Jw.perm {G : Gt} {ws w1 ws' : va_W} {s : State} {H : Heap} {locs : List Loc} (h : Jw G ws s H locs) (hp : ws.Perm w1) (hs : ws'.Sublist w1) : Jw G ws' s H locs := by
  obtain ⟨h1, h2, h3, h4⟩ := h
  refine ⟨h1, va_Pof (fun x hx => va_Pmem h2 (hp.mem_iff.mpr (hs.subset hx))), ?_, h4⟩
  obtain ⟨g1, g2⟩ := va_Dnd.mp h3
  exact va_Dnd.mpr ⟨((hs.map Prod.fst).nodup) ((hp.map Prod.fst).nodup_iff.mp g1), fun x hx => g2 x (hp.mem_iff.mpr (hs.subset hx))⟩
/-- what stands behind is forgotten -/
theorem Jw.drop {G : Gt} {ws Y : va_W} {s : State} {H : Heap} {locs : List Loc} (h : Jw G (ws ++ Y) s H locs) : Jw G ws s H locs := h.perm (List.Perm.refl _) (List.sublist_append_left _ _)
def Cw (l : Launch) (G : Gt) (y : MethodName) (cc : ByteArray) (maxL : Nat) (ret : Option FieldType) (d mc ms : Nat) (av : List Value) (ws : va_W) (Qc : Array Value → State → Outcome → State → Prop) : Prop :=
  Met l y (.code y cc maxL ret :: AL) (rm d mc ms) (va_Pc av (fun U => Ww G ws U)) Qc mc ms (gA G)
abbrev Ui (G : Gt) (post : Int32 → va_W → Prop) := va_Qi post (We2 G) (gA G)
abbrev Uv (G : Gt) (post : va_W → Prop) := va_Qv post (We2 G) (gA G)
abbrev Uq (G : Gt) (post : Option Nat → va_W → Prop) := va_Qq post (We2 G) (gA G)
theorem mw_intro {l : Launch} {G : Gt} {y : MethodName} {cc : ByteArray} {maxL : Nat} {ret : Option FieldType} {d mc ms : Nat} {av : List Value} {ws : va_W} {Qc : Array Value → State → Outcome → State → Prop} (hy : plainName y.cls = true) (hn : (lg_sl av).length ≤ maxL)
    (body : ∀ (p : Program) (e : Env) (s : State) (m : MethodId) (below : List Frame) (meth : Method) (c : Code), CallFix p m c cc maxL s av.toArray AL y.cls → meth.sig.returnType = ret → meth.locks = false → meth.name = y.name → Jw G ws s s.heap [] →
      ∀ ls : Array Slot, lv_has ls maxL (lv_args 0 av) → W p l e (rm d mc ms) s m av.toArray below meth c s.heap [] 0 0 (MQ below Qc av.toArray s mc ms (gA G)) (F0 m 0 ls [])) : Cw l G y cc maxL ret d mc ms av ws Qc := by
  refine Met.ofW (cc := cc) (maxL := maxL) (ret := ret) hy rfl ?_
  intro p e s m args below meth c s₁ B hml hv
  obtain ⟨rfl, hE, hP, hD⟩ := hv
  have hts := atoms_spec (ws := .code y cc maxL ret :: AL) B.pre
  rw [lg_entry_eq]
  exact body p e s m below meth c ⟨B.exec, B.bytes, hml, findClass_of_methodNamed B.named, fun w h => hts w (List.mem_cons_of_mem _ h)⟩ B.returns B.notSynchronized (name_of_methodNamed B.named B.method).1 ⟨hE, hP, hD, va_S.rf⟩ _ (lv_entry av hn)
section WIDE
variable {p : Program} {l : Launch} {e : Env} {R : Room} {s : State} {m : MethodId} {args : Array Value} {below : List Frame} {meth : Method} {c : Code} {H : Heap} {locs : List Loc} {cells slots mc ms : Nat} {Q : State → Prop}
variable {cc : ByteArray} {pc nL : Nat} {ls : Array Slot} {rest : List Value} {G : Gt} {σ : St} {own : String} {ws Z : va_W}
theorem Jw.K (h : Jw G ws s H locs) : va_K (gD G) vwCl (tys G) s := h.1.2.2.1
theorem Jw.hA (h : Jw G ws s H locs) : ∀ q : Nat, s.heap.size ≤ q → gA G q := h.1.2.1
theorem Jw.iv (h : Jw G (wl G σ ++ Z) s H locs) : Iv G σ s H locs := ⟨h.1, fun k q hq => h.2.1 k q (by rw [List.getElem?_append_left (List.getElem?_eq_some_iff.mp hq).1]; exact hq), h.2.2.2⟩
/-! ends -/
theorem yt_i {v : Int32} {ws' : va_W} {post : Int32 → va_W → Prop} (S : CallFix p m c cc nL s args AL own) (hJ : Jw G ws' s H locs) (hr : meth.sig.returnType = some .int) (hlk : meth.locks = false) (hp : post v ws') (hc : cells ≤ mc) (hs : slots ≤ ms) (hdg : decode cc pc = .ok (.ireturn, 1)) :
    W p l e R s m args below meth c H locs cells slots (MQ below (Ui G post) args s mc ms (gA G)) (F0 m pc ls [.int v]) :=
  W.widen hc hs (W.iret S.1 S.2.1 hr (fun t ht _ => ⟨⟨v, ws', rfl, hp, by rw [ht]; exact hJ.2.1, hJ.2.2.1⟩, hJ.2.2.2.F ht⟩) hJ.2.2.2.2.2 hdg hlk)
theorem yt_z {v : Int32} {ws' : va_W} {post : Int32 → va_W → Prop} (S : CallFix p m c cc nL s args AL own) (hJ : Jw G ws' s H locs) (hr : meth.sig.returnType = some .boolean) (hlk : meth.locks = false) (hn : narrow .boolean (.int v) = .int v) (hp : post v ws') (hc : cells ≤ mc) (hs : slots ≤ ms) (hdg : decode cc pc = .ok (.ireturn, 1)) :
    W p l e R s m args below meth c H locs cells slots (MQ below (Ui G post) args s mc ms (gA G)) (F0 m pc ls [.int v]) :=
  W.widen hc hs (W.zret S.1 S.2.1 hr hn (fun t ht _ => ⟨⟨v, ws', rfl, hp, by rw [ht]; exact hJ.2.1, hJ.2.2.1⟩, hJ.2.2.2.F ht⟩) hJ.2.2.2.2.2 hdg hlk)
theorem yt_v {ws' : va_W} {post : va_W → Prop} (S : CallFix p m c cc nL s args AL own) (hJ : Jw G ws' s H locs) (hr : meth.sig.returnType = none) (hlk : meth.locks = false) (hp : post ws') (hc : cells ≤ mc) (hs : slots ≤ ms) (hdg : decode cc pc = .ok (.return_, 1)) :
    W p l e R s m args below meth c H locs cells slots (MQ below (Uv G post) args s mc ms (gA G)) (F0 m pc ls []) :=
  W.widen hc hs (W.vret S.1 S.2.1 hr (fun t ht _ => ⟨⟨ws', rfl, hp, by rw [ht]; exact hJ.2.1, hJ.2.2.1⟩, hJ.2.2.2.F ht⟩) hJ.2.2.2.2.2 hdg hlk)
theorem yt_a {a : Nat} {ty : String} {ws' : va_W} {post : Option Nat → va_W → Prop} (S : CallFix p m c cc nL s args AL own) (hJ : Jw G ws' s H locs) (hr : meth.sig.returnType = some (.object ty)) (hlk : meth.locks = false) (hp : post (some a) ws') (hc : cells ≤ mc) (hs : slots ≤ ms) (hdg : decode cc pc = .ok (.areturn, 1)) :
    W p l e R s m args below meth c H locs cells slots (MQ below (Uq G post) args s mc ms (gA G)) (F0 m pc ls [.ref a]) :=
  W.widen hc hs (W.aret S.1 S.2.1 hr (Or.inl ⟨_, rfl⟩) (Or.inr ⟨_, rfl⟩) (fun t ht _ => ⟨⟨some a, ws', rfl, hp, by rw [ht]; exact hJ.2.1, hJ.2.2.1⟩, hJ.2.2.2.F ht⟩) hJ.2.2.2.2.2 hdg hlk)
/-! calls of methods over the same world -/
theorem ww_pc {av : List Value} : FrameBlind (va_Pc av (fun U => Ww G ws U)) := fun _ U _ _ h => ⟨h.1, env_same (s := U) rfl rfl h.2.1, h.2.2⟩
theorem ww_at (hJ : Jw G ws s H locs) {U : State} (hU : U.heap = H) (hW : s.WarmedH U.vm) : Ww G ws U := ⟨env_go hW hU hJ.2.2.2 hJ.1, by rw [hU]; exact hJ.2.1, hJ.2.2.1⟩
theorem rwV {y : MethodName} {bytes : ByteArray} {maxL d n index b : Nat} {C : String} {ret : Option FieldType} {As : List Value} {Qc : Array Value → State → Outcome → State → Prop} (S : CallFix p m c cc nL s args AL own) (hJ : Jw G ws s H locs) (hM : Cw l G y bytes maxL ret d mc ms (.ref b :: As) ws Qc)
    (cw : CallW R s args own C index y bytes maxL ret (.code y bytes maxL ret :: AL) (rm d mc ms) mc ms n) (hrc : ∃ cell : Cell, H[b]? = some cell ∧ cell.vm.isStatics = false ∧ s.vm.findClass C = some cell.cls) (hn : As.length = n) (hsz : ls.size = nL) (hW : (rest.map fun v => v.category).sum ≤ 8)
    (hdg : decode cc pc = .ok (.invokevirtual index, 3)) (hf : cells + mc ≤ R.cells ∧ slots + ms ≤ R.slots) :
    va_Run p l e R s m args below meth c H locs cells slots mc ms (F0 m pc ls (As.reverse ++ .ref b :: rest)) rest (Qc (Value.ref b :: As).toArray) (gA G) :=
  va_runV S hM cw ⟨ww_pc, hrc, fun _ hU hWm => ⟨rfl, ww_at hJ hU hWm⟩⟩ rfl hn hsz rfl (lv_room hW) hdg hf
theorem rwS {y : MethodName} {bytes : ByteArray} {maxL d n index : Nat} {ret : Option FieldType} {As : List Value} {Qc : Array Value → State → Outcome → State → Prop} (S : CallFix p m c cc nL s args AL own) (hJ : Jw G ws s H locs) (hM : Cw l G y bytes maxL ret d mc ms As ws Qc)
    (cw : CallB R s args own index y bytes maxL ret (.code y bytes maxL ret :: AL) (rm d mc ms) mc ms n ∧ (Cond.static y).before args s = true) (hn : As.length = n) (hsz : ls.size = nL) (hW : (rest.map fun v => v.category).sum ≤ 8)
    (hdg : decode cc pc = .ok (.invokestatic index, 3)) (hf : cells + mc ≤ R.cells ∧ slots + ms ≤ R.slots) :
    va_Run p l e R s m args below meth c H locs cells slots mc ms (F0 m pc ls (As.reverse ++ rest)) rest (Qc As.toArray) (gA G) :=
  va_runS S hM cw ⟨ww_pc, fun _ hU hWm => ⟨rfl, ww_at hJ hU hWm⟩⟩ rfl hn hsz rfl (lv_room hW) hdg hf
theorem dw_i {post : Int32 → va_W → Prop} {st0 : List Value} {a : Array Value} (hJ : Jw G ws s H locs) (hr : va_Run p l e R s m args below meth c H locs cells slots mc ms (F0 m pc ls st0) rest (Ui G post a) (gA G))
    (kk : ∀ (r : Int32) (ws' : va_W) (H1 : Heap) (locs1 : List Loc), post r ws' → Jw G ws' s H1 locs1 → W p l e R s m args below meth c H1 locs1 (cells + mc) (slots + ms) Q (F0 m (pc + 3) ls (.int r :: rest))) : W p l e R s m args below meth c H locs cells slots Q (F0 m pc ls st0) :=
  va_calli hr hJ.2.2.2 (fun _ _ h => h) (fun _ h => h) (fun r u t H1 locs1 ht _ hp hb _ _ hS => kk r u H1 locs1 hp ⟨hJ.1, by rw [← ht]; exact hb.1, hb.2, hS⟩)
theorem dw_v {post : va_W → Prop} {st0 : List Value} {a : Array Value} (hJ : Jw G ws s H locs) (hr : va_Run p l e R s m args below meth c H locs cells slots mc ms (F0 m pc ls st0) rest (Uv G post a) (gA G))
    (kk : ∀ (ws' : va_W) (H1 : Heap) (locs1 : List Loc), post ws' → Jw G ws' s H1 locs1 → W p l e R s m args below meth c H1 locs1 (cells + mc) (slots + ms) Q (F0 m (pc + 3) ls rest)) : W p l e R s m args below meth c H locs cells slots Q (F0 m pc ls st0) :=
  va_callv hr hJ.2.2.2 (fun _ _ h => h) (fun _ h => h) (fun u t H1 locs1 ht _ hp hb _ _ hS => kk u H1 locs1 hp ⟨hJ.1, by rw [← ht]; exact hb.1, hb.2, hS⟩)
theorem dw_q {post : Option Nat → va_W → Prop} {st0 : List Value} {a : Array Value} (hJ : Jw G ws s H locs) (hr : va_Run p l e R s m args below meth c H locs cells slots mc ms (F0 m pc ls st0) rest (Uq G post a) (gA G))
    (kk : ∀ (r : Option Nat) (ws' : va_W) (H1 : Heap) (locs1 : List Loc), post r ws' → Jw G ws' s H1 locs1 → W p l e R s m args below meth c H1 locs1 (cells + mc) (slots + ms) Q (F0 m (pc + 3) ls (va_rf r :: rest))) : W p l e R s m args below meth c H locs cells slots Q (F0 m pc ls st0) :=
  va_callq hr hJ.2.2.2 (fun _ _ h => h) (fun _ h => h) (fun r u t H1 locs1 ht _ hp hb _ _ hS => kk r u H1 locs1 hp ⟨hJ.1, by rw [← ht]; exact hb.1, hb.2, hS⟩)
/-! calls of the class: its world is without Z -/
theorem ev_cutZ {U : State} (h : Ev G U) (h1 : ∀ i : Nat, i < 30 → ∀ x ∈ Z, x.1 ≠ gB G i) (h2 : ∀ x ∈ Z, x.1 < U.heap.size) : Ev (cutZ G Z) U := by
  obtain ⟨⟨g0, g1, g2⟩, g3, g4, g5, g6, g7, g8⟩ := h
  exact ⟨⟨g0, fun i hi => ⟨g1 i hi, h1 i hi⟩, g2⟩, fun q hq => ⟨g3 q hq, fun x hx => by have := h2 x hx; omega⟩, g4, fun k hk => (g5 k hk).narrow (fun _ z => z.1), g6.narrow (fun _ z => z.1), g7.narrow (fun _ z => z.1), ⟨⟨g8.1.1, g8.1.2.1, by
    obtain ⟨L, xs, k1, k2, k3, k4⟩ := g8.1.2.2
    exact ⟨L, xs, k1, k2, k3, fun z => k4 z.1⟩⟩, g8.2⟩⟩
theorem Jw.ne (hJ : Jw G (wl G σ ++ Z) s H locs) : ∀ i : Nat, i < 30 → ∀ x ∈ Z, x.1 ≠ gB G i := by
  intro i hi x hx e9
  obtain ⟨j, hj⟩ := List.getElem?_of_mem hx
  have h1 : (wl G σ ++ Z)[i]? = some (gB G i, ent G σ i) := by rw [List.getElem?_append_left (by rw [wl_len]; exact hi), wl_at G σ hi]
  have h2 : (wl G σ ++ Z)[30 + j]? = some x := by rw [List.getElem?_append_right (by rw [wl_len]; omega), wl_len, Nat.add_sub_cancel_left]; exact hj
  have := hJ.2.2.1.1 i (30 + j) _ _ h1 h2 e9.symm
  omega
theorem Jw.lt (hJ : Jw G ws s H locs) : ∀ x ∈ ws, x.1 < H.size := fun x hx => (va_Pmem hJ.2.1 hx).lt
theorem wd_cutZ (hJ : Jw G (wl G σ ++ Z) s H locs) {U : State} (hU : U.heap = H) (hW : s.WarmedH U.vm) : Wd (cutZ G Z) σ U :=
  ⟨ev_cutZ (env_go hW hU hJ.2.2.2 hJ.1) hJ.ne (fun x hx => by rw [hU]; exact hJ.lt x (List.mem_append_right _ hx)), by rw [hU]; exact hJ.iv.2.1⟩
theorem Jw.back {σ' : St} {H1 : Heap} {locs1 : List Loc} (hJ : Jw G (wl G σ ++ Z) s H locs) (hP : va_P (gD G) vwCl (wl G σ') H1) (hk1 : ∀ q : Nat, q < H.size → ¬ gA (cutZ G Z) q → H1[q]? = H[q]?) (hS : va_S (gA G) s.heap H1 locs1) : Jw G (wl G σ' ++ Z) s H1 locs1 := by
  refine ⟨hJ.1, va_Pof (fun x hx => ?_), va_Dfst hJ.2.2.1 (by rw [List.map_append, List.map_append, wl_fst]), hS⟩
  rcases List.mem_append.mp hx with h | h
  · exact va_Pmem hP h
  · exact (va_Pmem hJ.2.1 (List.mem_append_right _ h)).kept (hk1 x.1 (hJ.lt x (List.mem_append_right _ h)) (fun z => z.2 x h rfl))
theorem rzV {y : MethodName} {bytes : ByteArray} {maxL d na index b : Nat} {C : String} {ret : Option FieldType} {As : List Value} {Qc : Array Value → State → Outcome → State → Prop} (S : CallFix p m c cc nL s args AL own) (hJ : Jw G (wl G σ ++ Z) s H locs) (hM : Ct l (cutZ G Z) y bytes maxL ret d mc ms (.ref b :: As) σ Qc)
    (cw : CallW R s args own C index y bytes maxL ret (.code y bytes maxL ret :: AL) (rm d mc ms) mc ms na) (hrc : ∃ cell : Cell, H[b]? = some cell ∧ cell.vm.isStatics = false ∧ s.vm.findClass C = some cell.cls) (hn : As.length = na) (hsz : ls.size = nL) (hW : (rest.map fun v => v.category).sum ≤ 8)
    (hdg : decode cc pc = .ok (.invokevirtual index, 3)) (hf : cells + mc ≤ R.cells ∧ slots + ms ≤ R.slots) :
    va_Run p l e R s m args below meth c H locs cells slots mc ms (F0 m pc ls (As.reverse ++ .ref b :: rest)) rest (Qc (Value.ref b :: As).toArray) (gA (cutZ G Z)) :=
  va_runV S hM cw ⟨wd_pc, hrc, fun _ hU hWm => ⟨rfl, wd_cutZ hJ hU hWm⟩⟩ rfl hn hsz rfl (lv_room hW) hdg hf
theorem cz_i {post : Int32 → St → Prop} {st0 : List Value} {a0 : Array Value} (hJ : Jw G (wl G σ ++ Z) s H locs) (hr : va_Run p l e R s m args below meth c H locs cells slots mc ms (F0 m pc ls st0) rest (Qi (cutZ G Z) post a0) (gA (cutZ G Z)))
    (kk : ∀ (r : Int32) (σ' : St) (H1 : Heap) (locs1 : List Loc), post r σ' → Jw G (wl G σ' ++ Z) s H1 locs1 → W p l e R s m args below meth c H1 locs1 (cells + mc) (slots + ms) Q (F0 m (pc + 3) ls (.int r :: rest))) : W p l e R s m args below meth c H locs cells slots Q (F0 m pc ls st0) :=
  va_calli hr hJ.2.2.2 (fun _ _ h => h.1) (fun _ h => h.1) (fun r u t H1 locs1 ht _ hp hb _ hk1 hS => kk r u H1 locs1 hp (hJ.back (by rw [← ht]; exact hb) hk1 hS))
theorem cz_l {post : Int64 → St → Prop} {st0 : List Value} {a0 : Array Value} (hJ : Jw G (wl G σ ++ Z) s H locs) (hr : va_Run p l e R s m args below meth c H locs cells slots mc ms (F0 m pc ls st0) rest (Ql (cutZ G Z) post a0) (gA (cutZ G Z)))
    (kk : ∀ (r : Int64) (σ' : St) (H1 : Heap) (locs1 : List Loc), post r σ' → Jw G (wl G σ' ++ Z) s H1 locs1 → W p l e R s m args below meth c H1 locs1 (cells + mc) (slots + ms) Q (F0 m (pc + 3) ls (.long r :: rest))) : W p l e R s m args below meth c H locs cells slots Q (F0 m pc ls st0) :=
  va_calll hr hJ.2.2.2 (fun _ _ h => h.1) (fun _ h => h.1) (fun r u t H1 locs1 ht _ hp hb _ hk1 hS => kk r u H1 locs1 hp (hJ.back (by rw [← ht]; exact hb) hk1 hS))
theorem cz_d {post : UInt64 → St → Prop} {st0 : List Value} {a0 : Array Value} (hJ : Jw G (wl G σ ++ Z) s H locs) (hr : va_Run p l e R s m args below meth c H locs cells slots mc ms (F0 m pc ls st0) rest (Qd (cutZ G Z) post a0) (gA (cutZ G Z)))
    (kk : ∀ (r : UInt64) (σ' : St) (H1 : Heap) (locs1 : List Loc), post r σ' → Jw G (wl G σ' ++ Z) s H1 locs1 → W p l e R s m args below meth c H1 locs1 (cells + mc) (slots + ms) Q (F0 m (pc + 3) ls (.double r :: rest))) : W p l e R s m args below meth c H locs cells slots Q (F0 m pc ls st0) :=
  va_calld hr hJ.2.2.2 (fun _ _ h => h.1) (fun _ h => h.1) (fun r u t H1 locs1 ht _ hp hb _ hk1 hS => kk r u H1 locs1 hp (hJ.back (by rw [← ht]; exact hb) hk1 hS))
/-- the class refuses, and the row x of the caller's table takes it -/
theorem cz_bad (S : CallFix p m c cc nL s args AL RL) (hJ : Jw G (wl G σ ++ Z) s H locs) {y : MethodName} {bytes : ByteArray} {maxL d2 n index : Nat} {ret : Option FieldType} {As : List Value} {X : String} (hM : CtX l (cutZ G Z) y bytes maxL ret d2 (.ref (gB G 0) :: As) σ (NoI (cutZ G Z)) X)
    (cw : CallW R s args RL RX3 index y bytes maxL ret (.code y bytes maxL ret :: AL) (rm d2 1 6) 1 6 n) (hn : As.length = n) (hsz : ls.size = nL) (hW : (rest.map fun v => v.category).sum ≤ 8) (hdg : decode cc pc = .ok (.invokevirtual index, 3)) (hf : cells + 1 ≤ R.cells ∧ slots + 6 ≤ R.slots)
    (pre : List ExceptionTableEntry) (x : ExceptionTableEntry) (suf : List ExceptionTableEntry) (hsplit : c.exceptionTable.toList = pre ++ x :: suf) (hpass : ∀ z ∈ pre, covers z pc = false) (hx : covers x pc = true) (h0 : x.catchType ≠ 0)
    (hlink : Cond.classLink RL x.catchType X ∈ AL) (hcast : Cond.castable X X ∈ NW)
    (kk : ∀ (q9 : Addr) (H1 : Heap) (locs1 : List Loc), Jw G (wl G σ ++ Z) s H1 locs1 → W p l e R s m args below meth c H1 locs1 (cells + 1) (slots + 6) Q (F0 m x.handlerPc ls [.ref q9])) :
    W p l e R s m args below meth c H locs cells slots Q (F0 m pc ls (As.reverse ++ .ref (gB G 0) :: rest)) := by
  refine vx_calli (vx_runV S hM cw ⟨wd_pc, rcX hJ.iv, fun _ hU hWm => ⟨rfl, wd_cutZ hJ hU hWm⟩⟩ rfl hn hsz rfl (lv_room hW) hdg hf) hJ.2.2.2 (fun _ _ h => h.1) (fun _ h => h.1) (fun _ _ h => h.1) (fun E ce q9 u t H1 locs1 ht _ hu hb _ hk1 hS h1 h2 h3 => ?_) (fun r u t H1 locs1 _ _ hp _ _ _ _ => hp.elim)
  obtain ⟨rfl, hb2⟩ := hb
  have hu2 : u = σ := hu
  subst hu2
  refine vx_catch (name := E) S.2.2.2.1 pre x suf hsplit (fun z hz => Or.inl (hpass z hz)) hx h0 (S.2.2.2.2 _ hlink) (hJ.iv.nw hcast rfl) h1 h2 h3 (kk q9 H1 locs1 (hJ.back (by rw [← ht]; exact hb2) hk1 hS))
/-! cells by their place -/
theorem w_ild (S : CallFix p m c cc nL s args AL own) (hJ : Jw G ws s H locs) (q0 : Nat) {a n : Nat} {f : Nat → Int32} (ha : ws[q0]? = some (a, .inl (gC G 4, n, .inl f))) {j : Nat} (hj : j < n) (hn : n < 2 ^ 31) (hdg : decode cc pc = .ok (.iaload, 1))
    (kk : W p l e R s m args below meth c H locs cells slots Q (F0 m (pc + 1) ls (.int (f j) :: rest))) : W p l e R s m args below meth c H locs cells slots Q (F0 m pc ls (.int (nI j) :: .ref a :: rest)) := by
  refine va_iald S.1 S.2.1 hJ.K hJ.2.1 q0 2 ha rfl (vp_nI hj hn) hdg ?_
  rw [nI_clamp (by omega)]
  exact kk
theorem w_ist (S : CallFix p m c cc nL s args AL own) (hJ : Jw G ws s H locs) (q0 : Nat) {a n : Nat} {f : Nat → Int32} (ha : ws[q0]? = some (a, .inl (gC G 4, n, .inl f))) {j : Nat} (hj : j < n) (hn : n < 2 ^ 31) {v : Int32} (hdg : decode cc pc = .ok (.iastore, 1))
    (kk : ∀ (H1 : Heap) (locs1 : List Loc), Jw G (ws.set q0 (a, .inl (gC G 4, n, .inl (va_up f j v)))) s H1 locs1 → W p l e R s m args below meth c H1 locs1 cells slots Q (F0 m (pc + 1) ls rest)) : W p l e R s m args below meth c H locs cells slots Q (F0 m pc ls (.int v :: .int (nI j) :: .ref a :: rest)) := by
  refine va_iast S.1 S.2.1 hJ.K hJ.2.1 hJ.2.2.1 hJ.2.2.2 q0 2 ha rfl (vp_nI hj hn) hdg (fun H1 locs1 hP hD hS => kk H1 locs1 ⟨hJ.1, ?_, ?_, hS⟩)
  · rw [nI_clamp (by omega)] at hP
    exact hP
  · rw [nI_clamp (by omega)] at hD
    exact hD
theorem w_zld (S : CallFix p m c cc nL s args AL own) (hJ : Jw G ws s H locs) (q0 : Nat) {a n : Nat} {f : Nat → Int32} (ha : ws[q0]? = some (a, .inl (gC G 6, n, .inl f))) {j : Nat} (hj : j < n) (hn : n < 2 ^ 31) (hdg : decode cc pc = .ok (.baload, 1))
    (kk : W p l e R s m args below meth c H locs cells slots Q (F0 m (pc + 1) ls (.int (f j) :: rest))) : W p l e R s m args below meth c H locs cells slots Q (F0 m pc ls (.int (nI j) :: .ref a :: rest)) := by
  refine va_zald S.1 S.2.1 hJ.K hJ.2.1 q0 4 ha rfl (vp_nI hj hn) hdg ?_
  rw [nI_clamp (by omega)]
  exact kk
theorem w_zst (S : CallFix p m c cc nL s args AL own) (hJ : Jw G ws s H locs) (q0 : Nat) {a n : Nat} {f : Nat → Int32} (ha : ws[q0]? = some (a, .inl (gC G 6, n, .inl f))) {j : Nat} (hj : j < n) (hn : n < 2 ^ 31) {v : Int32} (hv : vp_nar .boolean v = v) (hdg : decode cc pc = .ok (.bastore, 1))
    (kk : ∀ (H1 : Heap) (locs1 : List Loc), Jw G (ws.set q0 (a, .inl (gC G 6, n, .inl (va_up f j v)))) s H1 locs1 → W p l e R s m args below meth c H1 locs1 cells slots Q (F0 m (pc + 1) ls rest)) : W p l e R s m args below meth c H locs cells slots Q (F0 m pc ls (.int v :: .int (nI j) :: .ref a :: rest)) := by
  refine va_zast S.1 S.2.1 hJ.K hJ.2.1 hJ.2.2.1 hJ.2.2.2 q0 4 ha rfl (vp_nI hj hn) hdg (fun H1 locs1 hP hD hS => kk H1 locs1 ⟨hJ.1, ?_, ?_, hS⟩)
  · rw [nI_clamp (by omega)] at hP
    try rw [hv] at hP
    exact hP
  · rw [nI_clamp (by omega)] at hD
    try rw [hv] at hD
    exact hD
theorem w_len (S : CallFix p m c cc nL s args AL own) (hJ : Jw G ws s H locs) (q0 t0 : Nat) {a n : Nat} {cA : ClassId} {ty : FieldType} (ht : (tys G)[t0]? = some (cA, ty)) {x : ((Nat → Int32) ⊕ (Nat → Int64) ⊕ (Nat → UInt32) ⊕ (Nat → UInt64) ⊕ (Nat → Option Nat))} (ha : ws[q0]? = some (a, .inl (cA, n, x))) (hdg : decode cc pc = .ok (.arraylength, 1))
    (kk : W p l e R s m args below meth c H locs cells slots Q (F0 m (pc + 1) ls (.int (nI n) :: rest))) : W p l e R s m args below meth c H locs cells slots Q (F0 m pc ls (.ref a :: rest)) :=
  va_alen S.1 S.2.1 hJ.K hJ.2.1 q0 t0 ha ht rfl hdg kk
/-- a reference out of the array of rows -/
theorem w_ald (S : CallFix p m c cc nL s args AL own) (hJ : Jw G ws s H locs) (q0 : Nat) {a n v : Nat} {f : Nat → Option Nat} (ha : ws[q0]? = some (a, .inl (gC G 5, n, .inr (.inr (.inr (.inr f)))))) {j : Nat} (hj : j < n) (hn : n < 2 ^ 31) (hv : f j = some v) (hdg : decode cc pc = .ok (.aaload, 1))
    (kk : W p l e R s m args below meth c H locs cells slots Q (F0 m (pc + 1) ls (.ref v :: rest))) : W p l e R s m args below meth c H locs cells slots Q (F0 m pc ls (.int (nI j) :: .ref a :: rest)) := by
  refine W.aald (v := .ref v) (ty := .array .int) S.1 S.2.1 (hJ.2.1 q0 _ ha) ((hJ.K.2 3 _ rfl).1 n (fun i => va_rf (f i))) rfl (fun q => by cases q) (by show ¬ (nI j < 0 ∨ (arrV _ _ _).slots.size ≤ _); rw [arrV_size]; exact vp_nI hj hn) ?_ rfl rfl hdg kk
  show (arrV _ _ _).slots[_]? = _
  rw [nI_clamp (by omega), arrV_read _ _ hj, hv]
  rfl
/-- a row is laid into the array of rows -/
theorem w_ast (S : CallFix p m c cc nL s args AL own) (hJ : Jw G ws s H locs) (q0 qk : Nat) {a n v nv : Nat} {f : Nat → Option Nat} {fv : Nat → Int32} (ha : ws[q0]? = some (a, .inl (gC G 5, n, .inr (.inr (.inr (.inr f)))))) (hv : ws[qk]? = some (v, .inl (gC G 4, nv, .inl fv))) {j : Nat} (hj : j < n) (hn : n < 2 ^ 31) (hdg : decode cc pc = .ok (.aastore, 1))
    (kk : ∀ (H1 : Heap) (locs1 : List Loc), Jw G (ws.set q0 (a, .inl (gC G 5, n, .inr (.inr (.inr (.inr (va_up f j (some v)))))))) s H1 locs1 → W p l e R s m args below meth c H1 locs1 cells slots Q (F0 m (pc + 1) ls rest)) : W p l e R s m args below meth c H locs cells slots Q (F0 m pc ls (.ref v :: .int (nI j) :: .ref a :: rest)) := by
  obtain ⟨kA, kI, k1, k2, k3⟩ := hJ.1.2.2.2.2.2.2.1.2.1.2
  have h0 : ¬ nI j < 0 := nI_pos (by omega)
  refine W.aast S.1 S.2.1 (hJ.2.1 q0 _ ha) (fun q h => by cases h) (fun h => by cases h) k1 k2 rfl k3 ⟨h0, by show _ < (arrV _ _ _).slots.size; rw [arrV_size, nI_clamp (by omega)]; exact hj⟩ (hJ.2.1 qk _ hv) (fun q h => by cases h) k3 (va_asg _ _) rfl rfl hdg fun H1 e9 z oq => ?_
  refine kk H1 _ ⟨hJ.1, hJ.2.1.set hJ.2.2.1 ha ?_ oq, hJ.2.2.1.set ha, hJ.2.2.2.put z oq (hJ.2.2.1.2 q0 _ ha)⟩
  show H1[a]? = some (vp_cell _ _)
  rw [e9, nI_clamp (by omega), vp_cell_q, vp_cell_q, arrV_store]
  congr 2
  funext q
  by_cases hq : q = j
  · subst hq
    simp [updV, va_up, va_rf]
  · simp [updV, va_up, hq]
/-! new rows -/
theorem w_newi (S : CallFix p m c cc nL s args AL own) (hJ : Jw G ws s H locs) {nv : Int32} {N : Nat} (hn : ¬ nv < 0) (hN : nv.toNatClampNeg = N) (hbytes : N * componentBytes .int ≤ 536870912) (hc : cells + 1 ≤ R.cells) (hs : slots + N ≤ R.slots) (hdg : decode cc pc = .ok (.newarray .int, 2))
    (kk : ∀ (q : Nat) (H1 : Heap), Jw G (ws ++ [(q, .inl (gC G 4, N, .inl (fun _ => 0)))]) s H1 locs → W p l e R s m args below meth c H1 locs (cells + 1) (slots + N) Q (F0 m (pc + 2) ls (.ref q :: rest))) : W p l e R s m args below meth c H locs cells slots Q (F0 m pc ls (.int nv :: rest)) := by
  refine va_newa (atype := .int) (ty := .int) S.1 S.2.1 (S.2.2.2.2 _ al_ints) rfl hJ.K hJ.2.1 hJ.2.2.1 hJ.2.2.2 hJ.hA (a0 := (N, .inl (fun _ => 0))) (fun _ => rfl) hn hN hbytes hc hs hdg (fun q cA H1 hK hP hD hS => ?_)
  have e1 : s.vm.findClass ("[" ++ FieldType.int.toString) = some cA := (hK.2 5 _ rfl).2
  have e2 : s.vm.findClass ("[" ++ FieldType.int.toString) = some (gC G 4) := (hJ.K.2 2 _ rfl).2
  obtain rfl : cA = gC G 4 := Option.some.inj (e1.symm.trans e2)
  exact kk q H1 ⟨hJ.1, hP, hD, hS⟩
theorem w_newz (S : CallFix p m c cc nL s args AL own) (hJ : Jw G ws s H locs) {nv : Int32} {N : Nat} (hn : ¬ nv < 0) (hN : nv.toNatClampNeg = N) (hbytes : N * componentBytes .boolean ≤ 536870912) (hc : cells + 1 ≤ R.cells) (hs : slots + N ≤ R.slots) (hdg : decode cc pc = .ok (.newarray .boolean, 2))
    (kk : ∀ (q : Nat) (H1 : Heap), Jw G (ws ++ [(q, .inl (gC G 6, N, .inl (fun _ => 0)))]) s H1 locs → W p l e R s m args below meth c H1 locs (cells + 1) (slots + N) Q (F0 m (pc + 2) ls (.ref q :: rest))) : W p l e R s m args below meth c H locs cells slots Q (F0 m pc ls (.int nv :: rest)) := by
  refine va_newa (atype := .boolean) (ty := .boolean) S.1 S.2.1 (S.2.2.2.2 _ al_bools) rfl hJ.K hJ.2.1 hJ.2.2.1 hJ.2.2.2 hJ.hA (a0 := (N, .inl (fun _ => 0))) (fun _ => rfl) hn hN hbytes hc hs hdg (fun q cA H1 hK hP hD hS => ?_)
  have e1 : s.vm.findClass ("[" ++ FieldType.boolean.toString) = some cA := (hK.2 5 _ rfl).2
  have e2 : s.vm.findClass ("[" ++ FieldType.boolean.toString) = some (gC G 6) := (hJ.K.2 4 _ rfl).2
  obtain rfl : cA = gC G 6 := Option.some.inj (e1.symm.trans e2)
  exact kk q H1 ⟨hJ.1, hP, hD, hS⟩
theorem w_newq (S : CallFix p m c cc nL s args AL RX4) (hJ : Jw G ws s H locs) {nv : Int32} {N : Nat} (hn : ¬ nv < 0) (hN : nv.toNatClampNeg = N) (hbytes : N * 4 ≤ 536870912) (hc : cells + 1 ≤ R.cells) (hs : slots + N ≤ R.slots) (hlink : Cond.classLink RX4 20 (FieldType.array .int).toString ∈ AL) (hdg : decode cc pc = .ok (.anewarray 20, 3))
    (kk : ∀ (q : Nat) (H1 : Heap), Jw G (ws ++ [(q, .inl (gC G 5, N, .inr (.inr (.inr (.inr (fun _ => none))))))]) s H1 locs → W p l e R s m args below meth c H1 locs (cells + 1) (slots + N) Q (F0 m (pc + 3) ls (.ref q :: rest))) : W p l e R s m args below meth c H locs cells slots Q (F0 m pc ls (.int nv :: rest)) := by
  subst hN
  refine W.anewA S.1 S.2.1 S.2.2.2.1 (S.2.2.2.2 _ hlink) hJ.1.2.2.2.2.2.2.1.2.1.1 rfl hdg rfl hn hbytes hc hs fun cA kA comp f1 f2 f3 f4 => ?_
  have e2 : s.vm.findClass ("[" ++ (FieldType.array .int).toString) = some (gC G 5) := (hJ.K.2 3 _ rfl).2
  obtain rfl : cA = gC G 5 := Option.some.inj (f1.symm.trans e2)
  generalize hH1 : H.push ({ cls := gC G 5, slots := Array.replicate nv.toNatClampNeg .null, vm := .none } : Cell) = H1
  have z1 : H1.size = H.size + 1 := by rw [← hH1, Array.size_push]
  have e1 : H1[H.size]? = some (arrV (gC G 5) nv.toNatClampNeg (fun _ => .null)) := by rw [← hH1, Array.getElem?_push_size, ← arrV_new]
  have o1 : ∀ q : Nat, q < H.size → H1[q]? = H[q]? := fun q hq => by rw [← hH1, Array.getElem?_push, if_neg (Nat.ne_of_lt hq)]
  have hk : ∀ (k : Nat) (x : Nat × va_E), ws[k]? = some x → H1[x.1]? = H[x.1]? := fun k x hx => o1 x.1 ((hJ.2.1 k x hx).lt)
  refine kk H.size H1 ⟨hJ.1, (hJ.2.1.kept hk).app (fun k x hx => ?_), hJ.2.2.1.push hJ.2.1 rfl (hJ.hA _ hJ.2.2.2.1), Nat.le_trans hJ.2.2.2.1 (by omega), fun x h1 h2 => (o1 x (Nat.lt_of_lt_of_le h1 hJ.2.2.2.1)).trans (hJ.2.2.2.2.1 x h1 h2), hJ.2.2.2.2.2⟩
  have hz : k < 1 := (List.getElem?_eq_some_iff.mp hx).1
  rw [show k = 0 by omega] at hx
  cases hx
  show H1[H.size]? = some (vp_cell _ _)
  rw [vp_cell_q]
  exact e1
end WIDE
