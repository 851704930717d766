/-! contracts: a method's call in the state σ -/
abbrev rm (d mc ms : Nat) : Room := { frames := d, cells := mc, slots := ms, locals := 36 * d }
def Ct (l : Launch) (G : Gt) (y : MethodName) (cc : ByteArray) (maxL : Nat) (ret : Option FieldType) (d mc ms : Nat) (av : List Value) (σ : St) (Qc : Array Value → State → Outcome → State → Prop) : Prop :=
  Met l y (.code y cc maxL ret :: AL) (rm d mc ms) (va_Pc av (fun U => Wd G σ U)) Qc mc ms (gA G)
abbrev Qi (G : Gt) (post : Int32 → St → Prop) := va_Qi post (We G) (gA G)
abbrev Ql (G : Gt) (post : Int64 → St → Prop) := va_Ql post (We G) (gA G)
abbrev Qv (G : Gt) (post : St → Prop) := va_Qv post (We G) (gA G)
abbrev Qq (G : Gt) (post : Option Nat → St → Prop) := va_Qq post (We G) (gA G)
theorem mt_intro {l : Launch} {G : Gt} {y : MethodName} {cc : ByteArray} {maxL : Nat} {ret : Option FieldType} {d mc ms : Nat} {av : List Value} {σ : St} {Qc : Array Value → State → Outcome → State → Prop} (hy : plainName y.cls = true) (hn : (lg_sl av).length ≤ maxL)
    (body : ∀ (p : Program) (e : Env) (s : State) (m : MethodId) (below : List Frame) (meth : Method) (c : Code), CallFix p m c cc maxL s av.toArray AL y.cls → meth.sig.returnType = ret → meth.locks = false → meth.name = y.name → Iv G σ s s.heap [] →
      ∀ ls : Array Slot, lv_has ls maxL (lv_args 0 av) → W p l e (rm d mc ms) s m av.toArray below meth c s.heap [] 0 0 (MQ below Qc av.toArray s mc ms (gA G)) (F0 m 0 ls [])) : Ct l G y cc maxL ret d mc ms av σ Qc := by
  refine Met.ofW (cc := cc) (maxL := maxL) (ret := ret) hy rfl ?_
  intro p e s m args below meth c s₁ B hml hv
  obtain ⟨rfl, hE, hP⟩ := hv
  have hts := atoms_spec (ws := .code y cc maxL ret :: AL) B.pre
  rw [lg_entry_eq]
  exact body p e s m below meth c ⟨B.exec, B.bytes, hml, findClass_of_methodNamed B.named, fun w h => hts w (List.mem_cons_of_mem _ h)⟩ B.returns B.notSynchronized (name_of_methodNamed B.named B.method).1 ⟨hE, hP, va_S.rf⟩ _ (lv_entry av hn)
section RW1
variable {p : Program} {l : Launch} {e : Env} {R : Room} {s : State} {m : MethodId} {args : Array Value} {below : List Frame} {meth : Method} {c : Code} {H : Heap} {locs : List Loc} {cells slots mc ms : Nat} {Q : State → Prop}
variable {cc : ByteArray} {pc nL : Nat} {ls : Array Slot} {rest : List Value} {G : Gt} {σ : St} {own : String}
/-! ends -/
theorem xt_i {v : Int32} {σ' : St} {post : Int32 → St → Prop} (S : CallFix p m c cc nL s args AL own) (hI : Iv G σ' s H locs) (hr : meth.sig.returnType = some .int) (hlk : meth.locks = false) (hp : post v σ') (hc : cells ≤ mc) (hs : slots ≤ ms) (hdg : decode cc pc = .ok (.ireturn, 1)) :
    W p l e R s m args below meth c H locs cells slots (MQ below (Qi G post) args s mc ms (gA G)) (F0 m pc ls [.int v]) :=
  W.widen hc hs (W.iret S.1 S.2.1 hr (fun t ht _ => ⟨⟨v, σ', rfl, hp, by unfold We; rw [ht]; exact hI.2.1⟩, hI.2.2.F ht⟩) hI.2.2.2.2 hdg hlk)
theorem xt_z {v : Int32} {σ' : St} {post : Int32 → St → Prop} (S : CallFix p m c cc nL s args AL own) (hI : Iv G σ' s H locs) (hr : meth.sig.returnType = some .boolean) (hlk : meth.locks = false) (hn : narrow .boolean (.int v) = .int v) (hp : post v σ') (hc : cells ≤ mc) (hs : slots ≤ ms) (hdg : decode cc pc = .ok (.ireturn, 1)) :
    W p l e R s m args below meth c H locs cells slots (MQ below (Qi G post) args s mc ms (gA G)) (F0 m pc ls [.int v]) :=
  W.widen hc hs (W.zret S.1 S.2.1 hr hn (fun t ht _ => ⟨⟨v, σ', rfl, hp, by unfold We; rw [ht]; exact hI.2.1⟩, hI.2.2.F ht⟩) hI.2.2.2.2 hdg hlk)
theorem xt_l {v : Int64} {σ' : St} {post : Int64 → St → Prop} (S : CallFix p m c cc nL s args AL own) (hI : Iv G σ' s H locs) (hr : meth.sig.returnType = some .long) (hlk : meth.locks = false) (hp : post v σ') (hc : cells ≤ mc) (hs : slots ≤ ms) (hdg : decode cc pc = .ok (.lreturn, 1)) :
    W p l e R s m args below meth c H locs cells slots (MQ below (Ql G post) args s mc ms (gA G)) (F0 m pc ls [.long v]) :=
  W.widen hc hs (W.lret S.1 S.2.1 hr (fun t ht _ => ⟨⟨v, σ', rfl, hp, by unfold We; rw [ht]; exact hI.2.1⟩, hI.2.2.F ht⟩) hI.2.2.2.2 hdg hlk)
theorem xt_v {σ' : St} {post : St → Prop} (S : CallFix p m c cc nL s args AL own) (hI : Iv G σ' s H locs) (hr : meth.sig.returnType = none) (hlk : meth.locks = false) (hp : post σ') (hc : cells ≤ mc) (hs : slots ≤ ms) (hdg : decode cc pc = .ok (.return_, 1)) :
    W p l e R s m args below meth c H locs cells slots (MQ below (Qv G post) args s mc ms (gA G)) (F0 m pc ls []) :=
  W.widen hc hs (W.vret S.1 S.2.1 hr (fun t ht _ => ⟨⟨σ', rfl, hp, by unfold We; rw [ht]; exact hI.2.1⟩, hI.2.2.F ht⟩) hI.2.2.2.2 hdg hlk)
theorem xt_a {a : Nat} {ty : String} {σ' : St} {post : Option Nat → St → Prop} (S : CallFix p m c cc nL s args AL own) (hI : Iv G σ' s H locs) (hr : meth.sig.returnType = some (.object ty)) (hlk : meth.locks = false) (hp : post (some a) σ') (hc : cells ≤ mc) (hs : slots ≤ ms) (hdg : decode cc pc = .ok (.areturn, 1)) :
    W p l e R s m args below meth c H locs cells slots (MQ below (Qq G post) args s mc ms (gA G)) (F0 m pc ls [.ref a]) :=
  W.widen hc hs (W.aret S.1 S.2.1 hr (Or.inl ⟨_, rfl⟩) (Or.inr ⟨_, rfl⟩) (fun t ht _ => ⟨⟨some a, σ', rfl, hp, by unfold We; rw [ht]; exact hI.2.1⟩, hI.2.2.F ht⟩) hI.2.2.2.2 hdg hlk)
/-! calls: the run, by the kind of call; then by the kind of answer -/
theorem wd_pc {av : List Value} : FrameBlind (va_Pc av (fun U => Wd G σ U)) := fun _ U _ _ h => ⟨h.1, env_same (s := U) rfl rfl h.2.1, h.2.2⟩
theorem wd_at (hI : Iv G σ s H locs) {U : State} (hU : U.heap = H) (hW : s.WarmedH U.vm) : Wd G σ U := ⟨env_go hW hU hI.2.2 hI.1, by rw [hU]; exact hI.2.1⟩
theorem rnV {y : MethodName} {bytes : ByteArray} {maxL d n index b : Nat} {C : String} {ret : Option FieldType} {As : List Value} {Qc : Array Value → State → Outcome → State → Prop} (S : CallFix p m c cc nL s args AL own) (hI : Iv G σ s H locs) (hM : Ct l G y bytes maxL ret d mc ms (.ref b :: As) σ Qc)
    (cw : CallW R s args own C index y bytes maxL ret (.code y bytes maxL ret :: AL) (rm d mc ms) mc ms n) (hrc : ∃ cell : Cell, H[b]? = some cell ∧ cell.vm.isStatics = false ∧ s.vm.findClass C = some cell.cls) (hn : As.length = n) (hsz : ls.size = nL) (hW : (rest.map fun v => v.category).sum ≤ 8)
    (hdg : decode cc pc = .ok (.invokevirtual index, 3)) (hf : cells + mc ≤ R.cells ∧ slots + ms ≤ R.slots) :
    va_Run p l e R s m args below meth c H locs cells slots mc ms (F0 m pc ls (As.reverse ++ .ref b :: rest)) rest (Qc (Value.ref b :: As).toArray) (gA G) :=
  va_runV S hM cw ⟨wd_pc, hrc, fun _ hU hWm => ⟨rfl, wd_at hI hU hWm⟩⟩ rfl hn hsz rfl (lv_room hW) hdg hf
theorem rnVN {y : MethodName} {bytes : ByteArray} {maxL d n index b : Nat} {C host : String} {ret : Option FieldType} {As : List Value} {Qc : Array Value → State → Outcome → State → Prop} (S : CallFix p m c cc nL s args AL own) (hI : Iv G σ s H locs) (hM : Ct l G y bytes maxL ret d mc ms (.ref b :: As) σ Qc)
    (cw : va_CN R s args own index y host bytes maxL ret (.code y bytes maxL ret :: AL) (rm d mc ms) mc ms n ∧ (Cond.instanceMethod y).before args s = true ∧ (Cond.selects C y y).before args s = true) (hrc : ∃ cell : Cell, H[b]? = some cell ∧ cell.vm.isStatics = false ∧ s.vm.findClass C = some cell.cls) (hn : As.length = n) (hsz : ls.size = nL) (hW : (rest.map fun v => v.category).sum ≤ 8)
    (hdg : decode cc pc = .ok (.invokevirtual index, 3)) (hf : cells + mc ≤ R.cells ∧ slots + ms ≤ R.slots) :
    va_Run p l e R s m args below meth c H locs cells slots mc ms (F0 m pc ls (As.reverse ++ .ref b :: rest)) rest (Qc (Value.ref b :: As).toArray) (gA G) :=
  va_runVN S hM cw ⟨wd_pc, hrc, fun _ hU hWm => ⟨rfl, wd_at hI hU hWm⟩⟩ rfl hn hsz rfl (lv_room hW) hdg hf
theorem rnS {y : MethodName} {bytes : ByteArray} {maxL d n index : Nat} {ret : Option FieldType} {As : List Value} {Qc : Array Value → State → Outcome → State → Prop} (S : CallFix p m c cc nL s args AL own) (hI : Iv G σ s H locs) (hM : Ct l G y bytes maxL ret d mc ms As σ Qc)
    (cw : CallB R s args own index y bytes maxL ret (.code y bytes maxL ret :: AL) (rm d mc ms) mc ms n ∧ (Cond.static y).before args s = true) (hn : As.length = n) (hsz : ls.size = nL) (hW : (rest.map fun v => v.category).sum ≤ 8)
    (hdg : decode cc pc = .ok (.invokestatic index, 3)) (hf : cells + mc ≤ R.cells ∧ slots + ms ≤ R.slots) :
    va_Run p l e R s m args below meth c H locs cells slots mc ms (F0 m pc ls (As.reverse ++ rest)) rest (Qc As.toArray) (gA G) :=
  va_runS S hM cw ⟨wd_pc, fun _ hU hWm => ⟨rfl, wd_at hI hU hWm⟩⟩ rfl hn hsz rfl (lv_room hW) hdg hf
theorem cl_i {post : Int32 → St → Prop} {st0 : List Value} {a : Array Value} (hI : Iv G σ s H locs) (hr : va_Run p l e R s m args below meth c H locs cells slots mc ms (F0 m pc ls st0) rest (Qi G post a) (gA G))
    (kk : ∀ (r : Int32) (σ' : St) (H1 : Heap) (locs1 : List Loc), post r σ' → Iv G σ' s H1 locs1 → W p l e R s m args below meth c H1 locs1 (cells + mc) (slots + ms) Q (F0 m (pc + 3) ls (.int r :: rest))) : W p l e R s m args below meth c H locs cells slots Q (F0 m pc ls st0) :=
  va_calli hr hI.2.2 (fun _ _ h => h) (fun _ h => h) (fun r u t H1 locs1 ht _ hp hb _ _ hS => kk r u H1 locs1 hp ⟨hI.1, by rw [← ht]; exact hb, hS⟩)
theorem cl_l {post : Int64 → St → Prop} {st0 : List Value} {a : Array Value} (hI : Iv G σ s H locs) (hr : va_Run p l e R s m args below meth c H locs cells slots mc ms (F0 m pc ls st0) rest (Ql G post a) (gA G))
    (kk : ∀ (r : Int64) (σ' : St) (H1 : Heap) (locs1 : List Loc), post r σ' → Iv G σ' s H1 locs1 → W p l e R s m args below meth c H1 locs1 (cells + mc) (slots + ms) Q (F0 m (pc + 3) ls (.long r :: rest))) : W p l e R s m args below meth c H locs cells slots Q (F0 m pc ls st0) :=
  va_calll hr hI.2.2 (fun _ _ h => h) (fun _ h => h) (fun r u t H1 locs1 ht _ hp hb _ _ hS => kk r u H1 locs1 hp ⟨hI.1, by rw [← ht]; exact hb, hS⟩)
theorem cl_v {post : St → Prop} {st0 : List Value} {a : Array Value} (hI : Iv G σ s H locs) (hr : va_Run p l e R s m args below meth c H locs cells slots mc ms (F0 m pc ls st0) rest (Qv G post a) (gA G))
    (kk : ∀ (σ' : St) (H1 : Heap) (locs1 : List Loc), post σ' → Iv G σ' s H1 locs1 → W p l e R s m args below meth c H1 locs1 (cells + mc) (slots + ms) Q (F0 m (pc + 3) ls rest)) : W p l e R s m args below meth c H locs cells slots Q (F0 m pc ls st0) :=
  va_callv hr hI.2.2 (fun _ _ h => h) (fun _ h => h) (fun u t H1 locs1 ht _ hp hb _ _ hS => kk u H1 locs1 hp ⟨hI.1, by rw [← ht]; exact hb, hS⟩)
theorem cl_q {post : Option Nat → St → Prop} {st0 : List Value} {a : Array Value} (hI : Iv G σ s H locs) (hr : va_Run p l e R s m args below meth c H locs cells slots mc ms (F0 m pc ls st0) rest (Qq G post a) (gA G))
    (kk : ∀ (r : Option Nat) (σ' : St) (H1 : Heap) (locs1 : List Loc), post r σ' → Iv G σ' s H1 locs1 → W p l e R s m args below meth c H1 locs1 (cells + mc) (slots + ms) Q (F0 m (pc + 3) ls (va_rf r :: rest))) : W p l e R s m args below meth c H locs cells slots Q (F0 m pc ls st0) :=
  va_callq hr hI.2.2 (fun _ _ h => h) (fun _ h => h) (fun r u t H1 locs1 ht _ hp hb _ _ hS => kk r u H1 locs1 hp ⟨hI.1, by rw [← ht]; exact hb, hS⟩)
/-! receivers -/
theorem rcX (hI : Iv G σ s H locs) : ∃ cell : Cell, H[gB G 0]? = some cell ∧ cell.vm.isStatics = false ∧ s.vm.findClass RX3 = some cell.cls := va_recv hI.K hI.2.1 (ci := 2) (q0 := 0) rfl (wl_at G σ (by decide))
theorem rcS (hI : Iv G σ s H locs) {i : Nat} (hi : i < 6) : ∃ cell : Cell, H[gB G (3 + i)]? = some cell ∧ cell.vm.isStatics = false ∧ s.vm.findClass RX1 = some cell.cls := va_recv hI.K hI.2.1 (ci := 1) (q0 := 3 + i) rfl (wl_S G σ hi)
theorem rcP (hI : Iv G σ s H locs) {i : Nat} (hi : i < 21) : ∃ cell : Cell, H[gB G (9 + i)]? = some cell ∧ cell.vm.isStatics = false ∧ s.vm.findClass RX0 = some cell.cls := va_recv hI.K hI.2.1 (ci := 0) (q0 := 9 + i) rfl (wl_P G σ hi)
/-! fields: generic rows -/
theorem rgP (S : CallFix p m c cc nL s args AL own) (hI : Iv G σ s H locs) {i : Nat} (hi : i < 21) {x : Pr} (hp : gP σ i = x) (k : Nat) (hk : k < 6) {index : Nat} (hlink : (Cond.fieldLink own index RX0 (TX0 k).2.1 (TX0 k).2.2.1).before args s = true) (hsame : (TX0 k).1 = RX0) {v : Value} (hv : [Value.ref (gE G x.1), va_rf (shO G x.2.1), .int x.2.2.1, .int x.2.2.2.1, .int x.2.2.2.2.1, .int x.2.2.2.2.2][k]? = some v) (hdg : decode cc pc = .ok (.getfield index, 3))
    (kk : W p l e R s m args below meth c H locs cells slots Q (F0 m (pc + 3) ls (v :: rest))) : W p l e R s m args below meth c H locs cells slots Q (F0 m pc ls (.ref (gB G (9 + i)) :: rest)) := by
  subst hp
  exact va_get (D := gD G) (ci := 0) (C := RX0) (T := TX0) (N := 6) S.1 S.2.1 S.2.2.2.2 alX0 S.2.2.2.1 hI.K hI.2.1 (9 + i) (wl_P G σ hi) rfl k hk hlink (fun _ h => by rw [← hsame]; exact h) hv hdg kk
theorem rgPN (S : CallFix p m c cc nL s args AL own) (hI : Iv G σ s H locs) {i : Nat} (hi : i < 21) {x : Pr} (hp : gP σ i = x) (k : Nat) (hk : k < 6) {index : Nat} {host : String} (hlink : (Cond.fieldLinkNest own index RX0 (TX0 k).2.1 (TX0 k).2.2.1 host).before args s = true) (hsame : (TX0 k).1 = RX0) {v : Value} (hv : [Value.ref (gE G x.1), va_rf (shO G x.2.1), .int x.2.2.1, .int x.2.2.2.1, .int x.2.2.2.2.1, .int x.2.2.2.2.2][k]? = some v) (hdg : decode cc pc = .ok (.getfield index, 3))
    (kk : W p l e R s m args below meth c H locs cells slots Q (F0 m (pc + 3) ls (v :: rest))) : W p l e R s m args below meth c H locs cells slots Q (F0 m pc ls (.ref (gB G (9 + i)) :: rest)) := by
  subst hp
  exact va_getN (D := gD G) (ci := 0) (C := RX0) (T := TX0) (N := 6) S.1 S.2.1 S.2.2.2.2 alX0 S.2.2.2.1 hI.K hI.2.1 (9 + i) (wl_P G σ hi) rfl k hk hlink (fun _ h => by rw [← hsame]; exact h) hv hdg kk
theorem rgS (S : CallFix p m c cc nL s args AL own) (hI : Iv G σ s H locs) {i : Nat} (hi : i < 6) {x : Sh} (hp : gS σ i = x) (k : Nat) (hk : k < 3) {index : Nat} (hlink : (Cond.fieldLink own index RX1 (TX1 k).2.1 (TX1 k).2.2.1).before args s = true) (hsame : (TX1 k).1 = RX1) {v : Value} (hv : [Value.int (if i < 5 then nI i else -1), .int x.1, .int x.2][k]? = some v) (hdg : decode cc pc = .ok (.getfield index, 3))
    (kk : W p l e R s m args below meth c H locs cells slots Q (F0 m (pc + 3) ls (v :: rest))) : W p l e R s m args below meth c H locs cells slots Q (F0 m pc ls (.ref (gB G (3 + i)) :: rest)) := by
  subst hp
  exact va_get (D := gD G) (ci := 1) (C := RX1) (T := TX1) (N := 3) S.1 S.2.1 S.2.2.2.2 alX1 S.2.2.2.1 hI.K hI.2.1 (3 + i) (wl_S G σ hi) rfl k hk hlink (fun _ h => by rw [← hsame]; exact h) hv hdg kk
theorem rgSN (S : CallFix p m c cc nL s args AL own) (hI : Iv G σ s H locs) {i : Nat} (hi : i < 6) {x : Sh} (hp : gS σ i = x) (k : Nat) (hk : k < 3) {index : Nat} {host : String} (hlink : (Cond.fieldLinkNest own index RX1 (TX1 k).2.1 (TX1 k).2.2.1 host).before args s = true) (hsame : (TX1 k).1 = RX1) {v : Value} (hv : [Value.int (if i < 5 then nI i else -1), .int x.1, .int x.2][k]? = some v) (hdg : decode cc pc = .ok (.getfield index, 3))
    (kk : W p l e R s m args below meth c H locs cells slots Q (F0 m (pc + 3) ls (v :: rest))) : W p l e R s m args below meth c H locs cells slots Q (F0 m pc ls (.ref (gB G (3 + i)) :: rest)) := by
  subst hp
  exact va_getN (D := gD G) (ci := 1) (C := RX1) (T := TX1) (N := 3) S.1 S.2.1 S.2.2.2.2 alX1 S.2.2.2.1 hI.K hI.2.1 (3 + i) (wl_S G σ hi) rfl k hk hlink (fun _ h => by rw [← hsame]; exact h) hv hdg kk
theorem rgX (S : CallFix p m c cc nL s args AL own) (hI : Iv G σ s H locs) (k : Nat) (hk : k < 8) {index : Nat} (hlink : (Cond.fieldLink own index RX3 (TX3 k).2.1 (TX3 k).2.2.1).before args s = true) (hsame : (TX3 k).1 = RX3) {v : Value} (hv : [Value.ref (gB G 1), .ref (gB G 2), .int (gX σ).1, .int (gX σ).2.1, .int (gX σ).2.2.1, .int (gX σ).2.2.2, .ref (gB G 8), .ref (gB G 29)][k]? = some v) (hdg : decode cc pc = .ok (.getfield index, 3))
    (kk : W p l e R s m args below meth c H locs cells slots Q (F0 m (pc + 3) ls (v :: rest))) : W p l e R s m args below meth c H locs cells slots Q (F0 m pc ls (.ref (gB G 0) :: rest)) :=
  va_get (D := gD G) (ci := 2) (C := RX3) (T := TX3) (N := 8) S.1 S.2.1 S.2.2.2.2 alX3 S.2.2.2.1 hI.K hI.2.1 0 (wl_at G σ (by decide)) rfl k hk hlink (fun _ h => by rw [← hsame]; exact h) hv hdg kk
theorem rpP (S : CallFix p m c cc nL s args AL own) (hI : Iv G σ s H locs) {i : Nat} (hi : i < 21) {x : Pr} (hp : gP σ i = x) (y : Pr) (k : Nat) (hk : k < 6) {index : Nat} (hlink : (Cond.fieldLink own index RX0 (TX0 k).2.1 (TX0 k).2.2.1).before args s = true) (hsame : (TX0 k).1 = RX0) (hfin : (TX0 k).2.2.2 = false) {ty : FieldType} {v : Value} (hd : parseFieldDescriptor (TX0 k).2.2.1 = some ty) (hn : narrow ty v = v) (hfit : fits ty v = true)
    (hset : [Value.ref (gE G x.1), va_rf (shO G x.2.1), .int x.2.2.1, .int x.2.2.2.1, .int x.2.2.2.2.1, .int x.2.2.2.2.2].set k v = [Value.ref (gE G y.1), va_rf (shO G y.2.1), .int y.2.2.1, .int y.2.2.2.1, .int y.2.2.2.2.1, .int y.2.2.2.2.2]) (hdg : decode cc pc = .ok (.putfield index, 3))
    (kk : ∀ (σ' : St) (H1 : Heap) (locs1 : List Loc), σ' = setP σ i y → gP σ' i = y → Iv G σ' s H1 locs1 → W p l e R s m args below meth c H1 locs1 cells slots Q (F0 m (pc + 3) ls rest)) : W p l e R s m args below meth c H locs cells slots Q (F0 m pc ls (v :: .ref (gB G (9 + i)) :: rest)) := by
  subst hp
  refine va_put (D := gD G) (ci := 0) (C := RX0) (T := TX0) (N := 6) S.1 S.2.1 S.2.2.2.2 alX0 tyX0 tyX0_ok nmX0 S.2.2.2.1 hI.K hI.2.1 hI.D hI.2.2 (9 + i) (wl_P G σ hi) rfl k hk hlink (fun _ h => by rw [← hsame]; exact h) hfin hd hn hfit hk hdg (fun H1 locs1 hP _ hS => kk _ H1 locs1 rfl (gP_setP σ i y) ⟨hI.1, ?_, hS⟩)
  rw [hset] at hP
  rw [← set_P G σ hi y]
  exact hP
theorem rpPN (S : CallFix p m c cc nL s args AL own) (hI : Iv G σ s H locs) {i : Nat} (hi : i < 21) {x : Pr} (hp : gP σ i = x) (y : Pr) (k : Nat) (hk : k < 6) {index : Nat} {host : String} (hlink : (Cond.fieldLinkNest own index RX0 (TX0 k).2.1 (TX0 k).2.2.1 host).before args s = true) (hsame : (TX0 k).1 = RX0) (hfin : (TX0 k).2.2.2 = false) {ty : FieldType} {v : Value} (hd : parseFieldDescriptor (TX0 k).2.2.1 = some ty) (hn : narrow ty v = v) (hfit : fits ty v = true)
    (hset : [Value.ref (gE G x.1), va_rf (shO G x.2.1), .int x.2.2.1, .int x.2.2.2.1, .int x.2.2.2.2.1, .int x.2.2.2.2.2].set k v = [Value.ref (gE G y.1), va_rf (shO G y.2.1), .int y.2.2.1, .int y.2.2.2.1, .int y.2.2.2.2.1, .int y.2.2.2.2.2]) (hdg : decode cc pc = .ok (.putfield index, 3))
    (kk : ∀ (σ' : St) (H1 : Heap) (locs1 : List Loc), σ' = setP σ i y → gP σ' i = y → Iv G σ' s H1 locs1 → W p l e R s m args below meth c H1 locs1 cells slots Q (F0 m (pc + 3) ls rest)) : W p l e R s m args below meth c H locs cells slots Q (F0 m pc ls (v :: .ref (gB G (9 + i)) :: rest)) := by
  subst hp
  refine va_putN (D := gD G) (ci := 0) (C := RX0) (T := TX0) (N := 6) S.1 S.2.1 S.2.2.2.2 alX0 tyX0 tyX0_ok nmX0 S.2.2.2.1 hI.K hI.2.1 hI.D hI.2.2 (9 + i) (wl_P G σ hi) rfl k hk hlink (fun _ h => by rw [← hsame]; exact h) hfin hd hn hfit hk hdg (fun H1 locs1 hP _ hS => kk _ H1 locs1 rfl (gP_setP σ i y) ⟨hI.1, ?_, hS⟩)
  rw [hset] at hP
  rw [← set_P G σ hi y]
  exact hP
theorem rpS (S : CallFix p m c cc nL s args AL own) (hI : Iv G σ s H locs) {i : Nat} (hi : i < 6) {x : Sh} (hp : gS σ i = x) (y : Sh) (k : Nat) (hk : k < 3) {index : Nat} (hlink : (Cond.fieldLink own index RX1 (TX1 k).2.1 (TX1 k).2.2.1).before args s = true) (hsame : (TX1 k).1 = RX1) (hfin : (TX1 k).2.2.2 = false) {ty : FieldType} {v : Value} (hd : parseFieldDescriptor (TX1 k).2.2.1 = some ty) (hn : narrow ty v = v) (hfit : fits ty v = true)
    (hset : [Value.int (if i < 5 then nI i else -1), .int x.1, .int x.2].set k v = [Value.int (if i < 5 then nI i else -1), .int y.1, .int y.2]) (hdg : decode cc pc = .ok (.putfield index, 3))
    (kk : ∀ (σ' : St) (H1 : Heap) (locs1 : List Loc), σ' = setS σ i y → gS σ' i = y → Iv G σ' s H1 locs1 → W p l e R s m args below meth c H1 locs1 cells slots Q (F0 m (pc + 3) ls rest)) : W p l e R s m args below meth c H locs cells slots Q (F0 m pc ls (v :: .ref (gB G (3 + i)) :: rest)) := by
  subst hp
  refine va_put (D := gD G) (ci := 1) (C := RX1) (T := TX1) (N := 3) S.1 S.2.1 S.2.2.2.2 alX1 tyX1 tyX1_ok nmX1 S.2.2.2.1 hI.K hI.2.1 hI.D hI.2.2 (3 + i) (wl_S G σ hi) rfl k hk hlink (fun _ h => by rw [← hsame]; exact h) hfin hd hn hfit hk hdg (fun H1 locs1 hP _ hS => kk _ H1 locs1 rfl (gS_setS σ i y) ⟨hI.1, ?_, hS⟩)
  rw [hset] at hP
  rw [← set_S G σ hi y]
  exact hP
theorem rpSN (S : CallFix p m c cc nL s args AL own) (hI : Iv G σ s H locs) {i : Nat} (hi : i < 6) {x : Sh} (hp : gS σ i = x) (y : Sh) (k : Nat) (hk : k < 3) {index : Nat} {host : String} (hlink : (Cond.fieldLinkNest own index RX1 (TX1 k).2.1 (TX1 k).2.2.1 host).before args s = true) (hsame : (TX1 k).1 = RX1) (hfin : (TX1 k).2.2.2 = false) {ty : FieldType} {v : Value} (hd : parseFieldDescriptor (TX1 k).2.2.1 = some ty) (hn : narrow ty v = v) (hfit : fits ty v = true)
    (hset : [Value.int (if i < 5 then nI i else -1), .int x.1, .int x.2].set k v = [Value.int (if i < 5 then nI i else -1), .int y.1, .int y.2]) (hdg : decode cc pc = .ok (.putfield index, 3))
    (kk : ∀ (σ' : St) (H1 : Heap) (locs1 : List Loc), σ' = setS σ i y → gS σ' i = y → Iv G σ' s H1 locs1 → W p l e R s m args below meth c H1 locs1 cells slots Q (F0 m (pc + 3) ls rest)) : W p l e R s m args below meth c H locs cells slots Q (F0 m pc ls (v :: .ref (gB G (3 + i)) :: rest)) := by
  subst hp
  refine va_putN (D := gD G) (ci := 1) (C := RX1) (T := TX1) (N := 3) S.1 S.2.1 S.2.2.2.2 alX1 tyX1 tyX1_ok nmX1 S.2.2.2.1 hI.K hI.2.1 hI.D hI.2.2 (3 + i) (wl_S G σ hi) rfl k hk hlink (fun _ h => by rw [← hsame]; exact h) hfin hd hn hfit hk hdg (fun H1 locs1 hP _ hS => kk _ H1 locs1 rfl (gS_setS σ i y) ⟨hI.1, ?_, hS⟩)
  rw [hset] at hP
  rw [← set_S G σ hi y]
  exact hP
theorem rpX (S : CallFix p m c cc nL s args AL own) (hI : Iv G σ s H locs) (y : Int32 × Int32 × Int32 × Int32) (k : Nat) (hk : k < 8) {index : Nat} (hlink : (Cond.fieldLink own index RX3 (TX3 k).2.1 (TX3 k).2.2.1).before args s = true) (hsame : (TX3 k).1 = RX3) (hfin : (TX3 k).2.2.2 = false) {ty : FieldType} {v : Value} (hd : parseFieldDescriptor (TX3 k).2.2.1 = some ty) (hn : narrow ty v = v) (hfit : fits ty v = true)
    (hset : [Value.ref (gB G 1), .ref (gB G 2), .int (gX σ).1, .int (gX σ).2.1, .int (gX σ).2.2.1, .int (gX σ).2.2.2, .ref (gB G 8), .ref (gB G 29)].set k v = [Value.ref (gB G 1), .ref (gB G 2), .int y.1, .int y.2.1, .int y.2.2.1, .int y.2.2.2, .ref (gB G 8), .ref (gB G 29)]) (hdg : decode cc pc = .ok (.putfield index, 3))
    (kk : ∀ (σ' : St) (H1 : Heap) (locs1 : List Loc), σ' = setX σ y → Iv G σ' s H1 locs1 → W p l e R s m args below meth c H1 locs1 cells slots Q (F0 m (pc + 3) ls rest)) : W p l e R s m args below meth c H locs cells slots Q (F0 m pc ls (v :: .ref (gB G 0) :: rest)) := by
  refine va_put (D := gD G) (ci := 2) (C := RX3) (T := TX3) (N := 8) S.1 S.2.1 S.2.2.2.2 alX3 tyX3 tyX3_ok nmX3 S.2.2.2.1 hI.K hI.2.1 hI.D hI.2.2 0 (wl_at G σ (by decide)) rfl k hk hlink (fun _ h => by rw [← hsame]; exact h) hfin hd hn hfit hk hdg (fun H1 locs1 hP _ hS => kk _ H1 locs1 rfl ⟨hI.1, ?_, hS⟩)
  rw [hset] at hP
  have e9 := set_k G σ (setX σ y) (k := 0) (e := ent G (setX σ y) 0) (by decide) rfl rfl rfl (fun j hj hne => by
    rcases (show j = 1 ∨ j = 2 by omega) with rfl | rfl <;> rfl)
  rw [← e9]
  exact hP
end RW1
