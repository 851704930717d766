def thN : List String := ["java/lang/RuntimeException", "java/lang/Exception"]
def ioX : String := "java/lang/IndexOutOfBoundsException"
def iaX : String := "java/lang/IllegalArgumentException"
def isX : String := "java/lang/IllegalStateException"
theorem thr_in1 : ∀ w ∈ vx_atS RX3 210 ioX thN, w ∈ lw_tbl := by decide +kernel
theorem thr_in2 : ∀ w ∈ vx_atS RX3 58 iaX thN, w ∈ lw_tbl := by decide +kernel
theorem thr_in3 : ∀ w ∈ vx_atS RX3 65 isX thN, w ∈ lw_tbl := by decide +kernel
theorem thr_g1 : ∀ w ∈ vx_atS RX3 210 ioX thN, goodWord w = true ∨ (isNest w = true ∧ w.onTables = true) := by decide +kernel
theorem thr_g2 : ∀ w ∈ vx_atS RX3 58 iaX thN, goodWord w = true ∨ (isNest w = true ∧ w.onTables = true) := by decide +kernel
theorem thr_g3 : ∀ w ∈ vx_atS RX3 65 isX thN, goodWord w = true ∨ (isNest w = true ∧ w.onTables = true) := by decide +kernel
theorem thr_hat {ws : List Cond} (h1 : ∀ w ∈ ws, w ∈ lw_tbl) (h2 : ∀ w ∈ ws, goodWord w = true ∨ (isNest w = true ∧ w.onTables = true)) {args : Array Value} {s : State} (hts : ∀ w ∈ AL, w.before args s = true) (hN : ∀ w ∈ NW, va_Nw w s) : ∀ w ∈ ws, w.before args s = true := by
  intro w hw
  rcases h2 w hw with g | ⟨g1, g2⟩
  · exact hts w (al (h1 w hw) g)
  · exact va_Nw.use g2 (hN w (List.mem_filter.mpr ⟨h1 w hw, g1⟩))
/-- a contract for arguments that are refused: it throws X, and nothing is changed -/
def CtX (l : Launch) (G : Gt) (y : MethodName) (cc : ByteArray) (maxL : Nat) (ret : Option FieldType) (d : Nat) (av : List Value) (σ : St) (Qc : Array Value → State → Outcome → State → Prop) (X : String) : Prop :=
  vx_Met l y (.code y cc maxL ret :: AL) (rm d 1 6) (va_Pc av (fun U => Wd G σ U)) Qc (vx_X (fun σ' : St => σ' = σ) (fun E σ' t => E = X ∧ We G σ' t) (gA G)) 1 6 (gA G)
abbrev NoI (G : Gt) := Qi G (fun _ _ => False)
abbrev NoV (G : Gt) := Qv G (fun _ => False)
abbrev NoQ (G : Gt) := Qq G (fun _ _ => False)
theorem mx_intro {l : Launch} {G : Gt} {y : MethodName} {cc : ByteArray} {maxL : Nat} {ret : Option FieldType} {d : Nat} {av : List Value} {σ : St} {Qc : Array Value → State → Outcome → State → Prop} {X : String} (hy : plainName y.cls = true) (hn : (lg_sl av).length ≤ maxL)
    (body : ∀ (p : Program) (e : Env) (s : State) (m : MethodId) (below : List Frame) (meth : Method) (c : Code), CallFix p m c cc maxL s av.toArray AL y.cls → meth.sig.returnType = ret → meth.locks = false → (∀ x ∈ c.exceptionTable.toList, False) → Iv G σ s s.heap [] →
      ∀ ls : Array Slot, lv_has ls maxL (lv_args 0 av) → W p l e (rm d 1 6) s m av.toArray below meth c s.heap [] 0 0 (vx_MQ below Qc (vx_X (fun σ' : St => σ' = σ) (fun E σ' t => E = X ∧ We G σ' t) (gA G)) av.toArray s 1 6 (gA G)) (F0 m 0 ls [])) : CtX l G y cc maxL ret d av σ Qc X := by
  refine vx_ofW (cc := cc) (maxL := maxL) (ret := ret) hy rfl ?_
  intro p e s m args below meth c s₁ B hml hxt hv
  obtain ⟨rfl, hE, hP⟩ := hv
  have hts := atoms_spec (ws := .code y cc maxL ret :: AL) B.pre
  rw [lg_entry_eq]
  exact body p e s m below meth c ⟨B.exec, B.bytes, hml, findClass_of_methodNamed B.named, fun w h => hts w (List.mem_cons_of_mem _ h)⟩ B.returns B.notSynchronized hxt ⟨hE, hP, va_S.rf⟩ _ (lv_entry av hn)
section THR
variable {p : Program} {l : Launch} {e : Env} {s : State} {m : MethodId} {args : Array Value} {below : List Frame} {meth : Method} {c : Code} {H : Heap} {locs : List Loc}
variable {cc : ByteArray} {pc nL d : Nat} {ls : Array Slot} {G : Gt} {σ : St} {Qc : Array Value → State → Outcome → State → Prop}
/-- throw new X("..") -/
theorem thr_new (S : CallFix p m c cc nL s args AL RX3) (hI : Iv G σ s H locs) (hl : l.stackTraces = false) {X : String} {ik ic : Nat} {q : Nat × String} (hq : q ∈ strs) (hfit : Bundle.fit X = true) (hk : Cond.classLink RX3 ik X ∈ AL) (hini : Cond.initialized X ∈ AL) (h1 : ∀ w ∈ vx_atS RX3 ic X thN, w ∈ lw_tbl) (h2 : ∀ w ∈ vx_atS RX3 ic X thN, goodWord w = true ∨ (isNest w = true ∧ w.onTables = true))
    (hgood : ∀ w ∈ Cond.classLink RX3 ik X :: Cond.initialized X :: vx_atS RX3 ic X thN, vx_ot w = true) (hsz : ls.size = nL) (hxt : ∀ x ∈ c.exceptionTable.toList, False) (hlk : meth.locks = false) (hd : 6 ≤ d)
    (d0 : decode cc pc = .ok (.new ik, 3)) (d3 : decode cc (pc + 3) = .ok (.dup, 1)) (d4 : decode cc (pc + 4) = .ok (.ldc q.1, 2)) (d6 : decode cc (pc + 6) = .ok (.invokespecial ic, 3)) (d9 : decode cc (pc + 9) = .ok (.athrow, 1)) :
    W p l e (rm d 1 6) s m args below meth c H locs 0 0 (vx_MQ below Qc (vx_X (fun σ' : St => σ' = σ) (fun E σ' t => E = X ∧ We G σ' t) (gA G)) args s 1 6 (gA G)) (F0 m pc ls []) := by
  obtain ⟨sa, hsa⟩ := hI.1.2.2.2.2.2.2.1.1 q hq
  have hloc : 82 ≤ 36 * d := by omega
  refine vx_throwS (names := thN) (A := gA G) S.1 S.2.1 hl S.2.2.2.1 hfit (by decide +kernel) (S.2.2.2.2 _ hk) (S.2.2.2.2 _ hini) hsa (thr_hat h1 h2 S.2.2.2.2 hI.1.2.2.2.2.2.2.2) hgood hI.1.2.2.2.2.1 hI.1.2.2.2.2.2.1 hI.2.2 (hsz.trans S.2.2.1.symm) d0 d3 d4 d6 d9 (fun x hx => (hxt x hx).elim) (by show 2 + 3 < d; omega) hloc (Nat.le_refl _) (Nat.le_refl _) hlk (fun t ht hz hkk => ⟨σ, rfl, ⟨rfl, ?_⟩, ?_⟩) hI.2.2.2.2 (Nat.le_refl _) (Nat.le_refl _)
  · intro k q hq
    exact (hI.2.1 k q hq).kept (hkk q.1 (hI.2.1 k q hq).lt)
  · exact ⟨Nat.le_trans hI.2.2.1 hz, fun q h1 h2 => (hkk q (Nat.lt_of_lt_of_le h1 hI.2.2.1)).trans (hI.2.2.2.1 q h1 h2)⟩
theorem thr_kx (hI : Iv G σ s H locs) (hxt : ∀ x ∈ c.exceptionTable.toList, False) (hlk : meth.locks = false) {X E : String} {σ1 : St} {rest : List Value} {ce : Cell} {q9 : Addr} {t : State} {H1 : Heap} {locs1 : List Loc} (ht : t.heap = H1) (hu : σ1 = σ) (hb : E = X ∧ We G σ1 t) (hS : va_S (gA G) s.heap H1 locs1) (h1 : H1[q9]? = some ce) (h2 : ce.vm = .none) (h3 : s.vm.findClass E = some ce.cls) {args : Array Value} :
    vx_W p l e (rm d 1 6) s m args below meth c H1 locs1 (0 + 1) (0 + 6) (vx_MQ below Qc (vx_X (fun σ' : St => σ' = σ) (fun E σ' t => E = X ∧ We G σ' t) (gA G)) args s 1 6 (gA G)) (F0 m pc ls rest) q9 := by
  refine vx_out (fun x hx => (hxt x hx).elim) hlk h1 h2 h3 (fun t9 ht9 _ => ⟨σ, rfl, ⟨hb.1, ?_⟩, ?_⟩) hS.2.2 (Nat.le_refl _) (Nat.le_refl _)
  · have h9 := hb.2
    rw [hu] at h9
    show va_P (gD G) vwCl (wl G σ) t9.heap
    rw [ht9, ← ht]
    exact h9
  · refine ⟨by rw [ht9]; exact hS.1, fun q g1 g2 => ?_⟩
    rw [ht9]
    exact hS.2.1 q g1 g2
/-- a static callee refuses -/
theorem thr_sv (S : CallFix p m c cc nL s args AL RX3) (hI : Iv G σ s H locs) (hxt : ∀ x ∈ c.exceptionTable.toList, False) (hlk : meth.locks = false) {y : MethodName} {bytes : ByteArray} {maxL d2 n index : Nat} {ret : Option FieldType} {As rest : List Value} {X : String} (hM : CtX l G y bytes maxL ret d2 As σ (NoV G) X)
    (cw : CallB (rm d 1 6) s args RX3 index y bytes maxL ret (.code y bytes maxL ret :: AL) (rm d2 1 6) 1 6 n ∧ (Cond.static y).before args s = true) (hn : As.length = n) (hsz : ls.size = nL) (hW : (rest.map fun v => v.category).sum ≤ 8) (hdg : decode cc pc = .ok (.invokestatic index, 3)) :
    W p l e (rm d 1 6) s m args below meth c H locs 0 0 (vx_MQ below Qc (vx_X (fun σ' : St => σ' = σ) (fun E σ' t => E = X ∧ We G σ' t) (gA G)) args s 1 6 (gA G)) (F0 m pc ls (As.reverse ++ rest)) := by
  refine vx_callv (vx_runS S hM cw ⟨wd_pc, fun _ hU hWm => ⟨rfl, wd_at hI hU hWm⟩⟩ rfl hn hsz rfl (lv_room hW) hdg ⟨Nat.le_refl _, Nat.le_refl _⟩) hI.2.2 (fun _ _ h => h) (fun _ h => h) (fun _ _ h => h) (fun E ce q9 u t H1 locs1 ht _ hu hb _ _ hS h1 h2 h3 => thr_kx hI hxt hlk ht hu hb hS h1 h2 h3) (fun u t H1 locs1 _ _ hp _ _ _ _ => hp.elim)
/-- a callee that never returns -/
theorem thr_callq {Rr : Room} {mc ms : Nat} {free : Addr → Prop} {A0 AX : Nat → Prop} {H0 : Heap} {Q : State → Prop} {cells slots : Nat} {S0 SX : Type} {px : SX → Prop} {BX : String → SX → State → Prop} {B0 : S0 → State → Prop} {A1 : Nat → Prop} {a0 : Array Value} {rest st0 : List Value} (hr : vx_Run p l e Rr s m args below meth c H locs cells slots mc ms (F0 m pc ls st0) rest (va_Qq (fun _ _ => False) B0 A1 a0) (vx_X px BX AX) free) (hS : va_S A0 H0 H locs) (hf : ∀ q, free q → A0 q) (hAX : ∀ q, q < H.size → AX q → A0 q)
    (kx : ∀ (E : String) (ce : Cell) (q9 : Addr) (u : SX) (t : State) (H1 : Heap) (locs1 : List Loc), t.heap = H1 → s.vm.Alike t.vm → px u → BX E u t → H.size ≤ H1.size → (∀ q : Nat, q < H.size → ¬ AX q → H1[q]? = H[q]?) → va_S A0 H0 H1 locs1 → H1[q9]? = some ce → ce.vm = .none → s.vm.findClass E = some ce.cls → vx_W p l e Rr s m args below meth c H1 locs1 (cells + mc) (slots + ms) Q (F0 m pc ls rest) q9) : W p l e Rr s m args below meth c H locs cells slots Q (F0 m pc ls st0) := by
  intro T hT X
  rcases hr T hT X with ⟨v, st₀, t, T', L, h0, X', hL, e1, e2, ⟨⟨r, u, hv, hp, hb⟩, hF⟩, st⟩ | ⟨q, st₀, t, T', L, E, ce, h0, X', hL, e1, e2, ⟨u, hp, hb, hF⟩, hce, hcv, hcl, st⟩
  · exact hp.elim
  · obtain ⟨k1, k2, k3⟩ := vx_keep h0 e1 hS hAX hf hL hF
    obtain ⟨t2, a1, b1⟩ := kx E ce q u t T'.heap (locs ++ L) e1.symm (by rw [← e2]; exact X'.warmed.alike) hp hb k1 k2 k3 (by rw [e1]; exact hce) hcv hcl T' rfl X'
    exact ⟨t2, st.trans a1, b1⟩
/-- an own method that answers an object refuses -/
theorem thr_vq (S : CallFix p m c cc nL s args AL RX3) (hI : Iv G σ s H locs) (hxt : ∀ x ∈ c.exceptionTable.toList, False) (hlk : meth.locks = false) {y : MethodName} {bytes : ByteArray} {maxL d2 n index : Nat} {ret : Option FieldType} {As rest : List Value} {X : String} (hM : CtX l G y bytes maxL ret d2 (.ref (gB G 0) :: As) σ (NoQ G) X)
    (cw : CallW (rm d 1 6) s args RX3 RX3 index y bytes maxL ret (.code y bytes maxL ret :: AL) (rm d2 1 6) 1 6 n) (hn : As.length = n) (hsz : ls.size = nL) (hW : (rest.map fun v => v.category).sum ≤ 8) (hdg : decode cc pc = .ok (.invokevirtual index, 3)) :
    W p l e (rm d 1 6) s m args below meth c H locs 0 0 (vx_MQ below Qc (vx_X (fun σ' : St => σ' = σ) (fun E σ' t => E = X ∧ We G σ' t) (gA G)) args s 1 6 (gA G)) (F0 m pc ls (As.reverse ++ .ref (gB G 0) :: rest)) := by
  refine thr_callq (vx_runV S hM cw ⟨wd_pc, rcX hI, fun _ hU hWm => ⟨rfl, wd_at hI hU hWm⟩⟩ rfl hn hsz rfl (lv_room hW) hdg ⟨Nat.le_refl _, Nat.le_refl _⟩) hI.2.2 (fun _ h => h) (fun _ _ h => h) (fun E ce q9 u t H1 locs1 ht _ hu hb _ _ hS h1 h2 h3 => thr_kx hI hxt hlk ht hu hb hS h1 h2 h3)
end THR
theorem thr_k1 : Cond.classLink RX3 206 ioX ∈ AL := al (by decide +kernel) rfl
theorem thr_k2 : Cond.classLink RX3 54 iaX ∈ AL := al (by decide +kernel) rfl
theorem thr_k3 : Cond.classLink RX3 61 isX ∈ AL := al (by decide +kernel) rfl
theorem thr_i1 : Cond.initialized ioX ∈ AL := al (by decide +kernel) rfl
theorem thr_i2 : Cond.initialized iaX ∈ AL := al (by decide +kernel) rfl
theorem thr_i3 : Cond.initialized isX ∈ AL := al (by decide +kernel) rfl
theorem thr_o1 : ∀ w ∈ Cond.classLink RX3 206 ioX :: Cond.initialized ioX :: vx_atS RX3 210 ioX thN, vx_ot w = true := by decide +kernel
theorem thr_o2 : ∀ w ∈ Cond.classLink RX3 54 iaX :: Cond.initialized iaX :: vx_atS RX3 58 iaX thN, vx_ot w = true := by decide +kernel
theorem thr_o3 : ∀ w ∈ Cond.classLink RX3 61 isX :: Cond.initialized isX :: vx_atS RX3 65 isX thN, vx_ot w = true := by decide +kernel
