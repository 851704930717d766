theorem vp_00 : vp_in (0 : Int32) 1 := fun h => by
  rcases h with h | h
  · exact absurd h (by decide)
  · exact absurd h (by decide)
section LWR
variable {p : Program} {l : Launch} {e : Env} {R : Room} {s : State} {m : MethodId} {args : Array Value} {below : List Frame} {meth : Method} {c : Code} {H : Heap} {locs : List Loc} {cells slots : Nat} {Q : State → Prop}
variable {cc : ByteArray} {pc nL : Nat} {ls : Array Slot} {rest : List Value} {G : Gt} {σ : St} {own : String}
theorem a_out (S : CallFix p m c cc nL s args AL own) (hI : Iv G σ s H locs) (hdg : decode cc pc = .ok (.laload, 1)) (kk : W p l e R s m args below meth c H locs cells slots Q (F0 m (pc + 1) ls (.long (σ.2.2 0) :: rest))) : W p l e R s m args below meth c H locs cells slots Q (F0 m pc ls (.int 0 :: .ref (gB G 8) :: rest)) :=
  va_lald S.1 S.2.1 hI.K hI.2.1 8 6 (f := σ.2.2) (n := 1) (cA := gC G 8) (by rw [wl_at G σ (by decide), ent]) rfl vp_00 hdg kk
theorem s_out (S : CallFix p m c cc nL s args AL own) (hI : Iv G σ s H locs) {x : Int64} (hdg : decode cc pc = .ok (.lastore, 1)) (kk : ∀ (H1 : Heap) (locs1 : List Loc), Iv G (setO σ x) s H1 locs1 → W p l e R s m args below meth c H1 locs1 cells slots Q (F0 m (pc + 1) ls rest)) : W p l e R s m args below meth c H locs cells slots Q (F0 m pc ls (.long x :: .int 0 :: .ref (gB G 8) :: rest)) := by
  refine va_last S.1 S.2.1 hI.K hI.2.1 hI.D hI.2.2 8 6 (f := σ.2.2) (n := 1) (cA := gC G 8) (by rw [wl_at G σ (by decide), ent]) rfl vp_00 hdg (fun H1 locs1 hP _ hS => kk H1 locs1 ⟨hI.1, ?_, hS⟩)
  rw [← set_k G σ (setO σ x) (k := 8) (by omega) rfl rfl rfl (fun j hj hne => by
    rcases (show j = 0 ∨ j = 1 ∨ j = 2 ∨ j = 3 ∨ j = 4 ∨ j = 5 ∨ j = 6 ∨ j = 7 by omega) with rfl | rfl | rfl | rfl | rfl | rfl | rfl | rfl <;> rfl)]
  exact hP
end LWR
/-- a method with a table that catches all that it calls -/
def CtL (l : Launch) (G : Gt) (y : MethodName) (cc : ByteArray) (maxL : Nat) (hh : List (Nat × Nat × Nat × Nat)) (d : Nat) (av : List Value) (σ : St) (Qc : Array Value → State → Outcome → State → Prop) : Prop :=
  Met l y (.codeWith y cc maxL (some .int) hh :: AL) (rm d 1 6) (va_Pc av (fun U => Wd G σ U)) Qc 1 6 (gA G)
theorem ml_intro {l : Launch} {G : Gt} {y : MethodName} {cc : ByteArray} {maxL : Nat} {hh : List (Nat × Nat × Nat × Nat)} {d : Nat} {av : List Value} {σ : St} {Qc : Array Value → State → Outcome → State → Prop} (hy : plainName y.cls = true) (hn : (lg_sl av).length ≤ maxL)
    (body : ∀ (p : Program) (e : Env) (s : State) (m : MethodId) (below : List Frame) (meth : Method) (c : Code), CallFix p m c cc maxL s av.toArray AL y.cls → meth.sig.returnType = some .int → meth.locks = false → c.exceptionTable.toList = tableOf hh → Iv G σ s s.heap [] →
      ∀ ls : Array Slot, lv_has ls maxL (lv_args 0 av) → W p l e (rm d 1 6) s m av.toArray below meth c s.heap [] 0 0 (MQ below Qc av.toArray s 1 6 (gA G)) (F0 m 0 ls [])) : CtL l G y cc maxL hh d av σ Qc := by
  unfold CtL Met
  refine MetFree.of_bodyS (code := cc) (maxLocals := maxL) (ret := some .int) hy ?_ ?_
  · intro args s m h hn
    obtain ⟨m9, meth, c, hn9, h1, h2, h3, h4, -, h5, h6, -⟩ := Cond.codeWith_spec (atoms_spec (ws := .codeWith y cc maxL (some .int) hh :: AL) h _ List.mem_cons_self)
    cases hn.symm.trans hn9
    exact ⟨meth, c, h1, h2, h3, h4, h5, h6⟩
  · intro p e s m args below meth c s₁ B hml hP _
    have hh0 : s₁.heap = s.heap := by rw [B.state]; rfl
    obtain ⟨rfl, hE, hPp⟩ := hP
    have hts := atoms_spec (ws := .codeWith y cc maxL (some .int) hh :: AL) B.pre
    have hb := body p e s m below meth c ⟨B.exec, B.bytes, hml, findClass_of_methodNamed B.named, fun w h => hts w (List.mem_cons_of_mem _ h)⟩ B.returns B.notSynchronized (vx_table (x := y) B (hts _ List.mem_cons_self)) ⟨hE, hPp, va_S.rf⟩ _ (lv_entry av hn)
    rw [← lg_entry_eq] at hb
    obtain ⟨t, a1, o, b1, b2, b3⟩ := hb s₁ hh0 (Stand.of_body B)
    exact ⟨t, o, a1, b1, b2, b3⟩
section LWB
variable {p : Program} {l : Launch} {e : Env} {R : Room} {s : State} {m : MethodId} {args : Array Value} {below : List Frame} {meth : Method} {c : Code} {H : Heap} {locs : List Loc} {cells slots : Nat} {Q : State → Prop}
variable {cc : ByteArray} {pc nL : Nat} {ls : Array Slot} {rest : List Value} {G : Gt} {σ : St}
/-- the class's own method refuses, and the row x of the table takes it -/
theorem lw_bad (S : CallFix p m c cc nL s args AL RL) (hI : Iv G σ s H locs) {y : MethodName} {bytes : ByteArray} {maxL d2 n index : Nat} {ret : Option FieldType} {As : List Value} {X : String} (hM : CtX l G y bytes maxL ret d2 (.ref (gB G 0) :: As) σ (NoI G) X)
    (cw : CallW R s args RL RX3 index y bytes maxL ret (.code y bytes maxL ret :: AL) (rm d2 1 6) 1 6 n) (hn : As.length = n) (hsz : ls.size = nL) (hW : (rest.map fun v => v.category).sum ≤ 8) (hdg : decode cc pc = .ok (.invokevirtual index, 3)) (hf : cells + 1 ≤ R.cells ∧ slots + 6 ≤ R.slots)
    (pre : List ExceptionTableEntry) (x : ExceptionTableEntry) (suf : List ExceptionTableEntry) (hsplit : c.exceptionTable.toList = pre ++ x :: suf) (hpass : ∀ z ∈ pre, z.catchType ≠ 0 ∧ ∃ nm : String, Cond.classLink RL z.catchType nm ∈ AL ∧ (X, nm) ∈ ncs) (hx : covers x pc = true) (h0 : x.catchType ≠ 0)
    (hlink : Cond.classLink RL x.catchType X ∈ AL) (hcast : Cond.castable X X ∈ NW)
    (kk : ∀ (q9 : Addr) (H1 : Heap) (locs1 : List Loc), Iv G σ s H1 locs1 → W p l e R s m args below meth c H1 locs1 (cells + 1) (slots + 6) Q (F0 m x.handlerPc ls [.ref q9])) :
    W p l e R s m args below meth c H locs cells slots Q (F0 m pc ls (As.reverse ++ .ref (gB G 0) :: rest)) := by
  refine vx_calli (vx_runV S hM cw ⟨wd_pc, rcX hI, fun _ hU hWm => ⟨rfl, wd_at hI hU hWm⟩⟩ rfl hn hsz rfl (lv_room hW) hdg hf) hI.2.2 (fun _ _ h => h) (fun _ h => h) (fun _ _ h => h) (fun E ce q9 u t H1 locs1 ht _ hu hb _ _ hS h1 h2 h3 => ?_) (fun r u t H1 locs1 _ _ hp _ _ _ _ => hp.elim)
  obtain ⟨rfl, hb2⟩ := hb
  have hu2 : u = σ := hu
  subst hu2
  refine vx_catch (name := E) S.2.2.2.1 pre x suf hsplit (fun z hz => ?_) hx h0 (S.2.2.2.2 _ hlink) (hI.nw hcast rfl) h1 h2 h3 (kk q9 H1 locs1 ⟨hI.1, by rw [← ht]; exact hb2, hS⟩)
  obtain ⟨g1, nm, g2, g3⟩ := hpass z hz
  exact Or.inr ⟨g1, nm, S.2.2.2.2 _ g2, hI.1.2.2.2.2.2.2.1.2 _ g3⟩
/-- the law calls a wrapper of its own -/
theorem rnL {y : MethodName} {bytes : ByteArray} {maxL d n index : Nat} {hh : List (Nat × Nat × Nat × Nat)} {As : List Value} {Qc : Array Value → State → Outcome → State → Prop} (S : CallFix p m c cc nL s args AL RL) (hI : Iv G σ s H locs) (hM : CtL l G y bytes maxL hh d As σ Qc)
    (cw : vx_CSW R s args RL index y bytes maxL (some .int) hh (.codeWith y bytes maxL (some .int) hh :: AL) (rm d 1 6) 1 6 n) (hn : As.length = n) (hsz : ls.size = nL) (hW : (rest.map fun v => v.category).sum ≤ 8)
    (hdg : decode cc pc = .ok (.invokestatic index, 3)) (hf : cells + 1 ≤ R.cells ∧ slots + 6 ≤ R.slots) :
    va_Run p l e R s m args below meth c H locs cells slots 1 6 (F0 m pc ls (As.reverse ++ rest)) rest (Qc As.toArray) (gA G) :=
  vx_runSW S hM cw ⟨wd_pc, fun _ hU hWm => ⟨rfl, wd_at hI hU hWm⟩⟩ rfl hn hsz rfl (lv_room hW) hdg hf
end LWB
