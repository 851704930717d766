/-! a new row of ints beside the world -/
abbrev cut (G : Gt) (a : Nat) : Gt := (G.1, G.2.1, G.2.2.1, G.2.2.2.1, G.2.2.2.2.1, fun q => G.2.2.2.2.2 q ∧ q ≠ a)
def Jv (G : Gt) (σ : St) (a : Nat) (cA : ClassId) (n : Nat) (f : Nat → Int32) (s : State) (H : Heap) (locs : List Loc) : Prop :=
  Ev G s ∧ va_P (gD G) vwCl (wl G σ ++ [(a, .inl (cA, n, .inl f))]) H ∧ va_S (gA G) s.heap H locs ∧ ((∀ i : Nat, i < 36 → gB G i ≠ a) ∧ gA G a) ∧ va_K (gD G) vwCl (tys G ++ [(cA, .int)]) s
theorem al_ints : Cond.arrayClass .int ∈ AL := al (by decide +kernel) rfl
theorem wl_len (G : Gt) (σ : St) : (wl G σ).length = 36 := by simp [wl]
theorem one_at {a : Nat} {e : va_E} {k : Nat} {q : Nat × va_E} (h : ([(a, e)] : va_W)[k]? = some q) : k = 0 ∧ q = (a, e) := by
  have hk : k < 1 := (List.getElem?_eq_some_iff.mp h).1
  obtain rfl : k = 0 := by omega
  cases h
  exact ⟨rfl, rfl⟩
theorem wr_at (G : Gt) (σ : St) (a : Nat) (e : va_E) : (wl G σ ++ [(a, e)])[36]? = some (a, e) := by
  rw [List.getElem?_append_right (by rw [wl_len]; exact Nat.le_refl _), wl_len]
  rfl
theorem wr_set (G : Gt) (σ : St) (a : Nat) (e e2 : va_E) : (wl G σ ++ [(a, e)]).set 36 (a, e2) = wl G σ ++ [(a, e2)] := by
  rw [List.set_append, if_neg (by rw [wl_len]; omega), wl_len]
  rfl
section JROW
variable {p : Program} {l : Launch} {e : Env} {R : Room} {s : State} {m : MethodId} {args : Array Value} {below : List Frame} {meth : Method} {c : Code} {H : Heap} {locs : List Loc} {cells slots mc ms : Nat} {Q : State → Prop}
variable {cc : ByteArray} {pc nL : Nat} {ls : Array Slot} {rest : List Value} {G : Gt} {σ : St} {own : String} {a n : Nat} {cA : ClassId} {f : Nat → Int32}
theorem Jv.iv (h : Jv G σ a cA n f s H locs) : Iv G σ s H locs := ⟨h.1, fun k q hq => h.2.1 k q (by rw [List.getElem?_append_left (List.getElem?_eq_some_iff.mp hq).1]; exact hq), h.2.2.1⟩
theorem Jv.D (h : Jv G σ a cA n f s H locs) : va_D (gA G) (wl G σ ++ [(a, .inl (cA, n, .inl f))]) := by
  have h1 := wl_D h.1 σ
  have h2 : va_D (gA G) [(a, (.inl (cA, n, .inl f) : va_E))] := by
    refine ⟨fun i j x y hx hy _ => ?_, fun k q hq => ?_⟩
    · rw [(one_at hx).1, (one_at hy).1]
    · rw [(one_at hq).2]
      exact h.2.2.2.1.2
  refine h1.app h2 (fun i j x y hx hy e9 => ?_)
  rw [(one_at hy).2] at e9
  have hi : i < 36 := by
    have := (List.getElem?_eq_some_iff.mp hx).1
    rw [wl_len] at this
    exact this
  rw [wl_at G σ hi] at hx
  cases hx
  exact h.2.2.2.1.1 i hi e9
theorem Jv.lt (h : Jv G σ a cA n f s H locs) : a < H.size := (h.2.1 36 _ (wr_at G σ a _)).lt
theorem j_new (S : CallFix p m c cc nL s args AL own) (hI : Iv G σ s H locs) (harr : Cond.arrayClass .int ∈ AL) {nv : Int32} {N : Nat} (hn : ¬ nv < 0) (hN : nv.toNatClampNeg = N) (hbytes : N * componentBytes .int ≤ 536870912) (hc : cells + 1 ≤ R.cells) (hs : slots + N ≤ R.slots) (hdg : decode cc pc = .ok (.newarray .int, 2))
    (kk : ∀ (a : Nat) (cA : ClassId) (H1 : Heap), Jv G σ a cA N (fun _ => 0) s H1 locs → W p l e R s m args below meth c H1 locs (cells + 1) (slots + N) Q (F0 m (pc + 2) ls (.ref a :: rest))) : W p l e R s m args below meth c H locs cells slots Q (F0 m pc ls (.int nv :: rest)) := by
  refine va_newa (atype := .int) (ty := .int) S.1 S.2.1 (S.2.2.2.2 _ harr) rfl hI.K hI.2.1 hI.D hI.2.2 hI.hA (a0 := (N, .inl (fun _ => 0))) (fun _ => rfl) hn hN hbytes hc hs hdg (fun q cA H1 hK hP hD hS => kk q cA H1 ⟨hI.1, hP, hS, ⟨fun i hi e9 => ?_, hD.2 36 _ (wr_at G σ q _)⟩, hK⟩)
  have h1 : (wl G σ ++ [(q, (.inl (cA, N, .inl (fun _ => 0)) : va_E))])[i]? = some (gB G i, ent G σ i) := by
    rw [List.getElem?_append_left (by rw [wl_len]; exact hi), wl_at G σ hi]
  have h2 := hD.1 i 36 _ _ h1 (wr_at G σ q _) e9
  omega
theorem j_st (S : CallFix p m c cc nL s args AL own) (hJ : Jv G σ a cA n f s H locs) {j : Nat} (hj : j < n) (hn : n < 2 ^ 31) {v : Int32} (hdg : decode cc pc = .ok (.iastore, 1))
    (kk : ∀ (H1 : Heap) (locs1 : List Loc), Jv G σ a cA n (va_up f j v) s H1 locs1 → W p l e R s m args below meth c H1 locs1 cells slots Q (F0 m (pc + 1) ls rest)) : W p l e R s m args below meth c H locs cells slots Q (F0 m pc ls (.int v :: .int (nI j) :: .ref a :: rest)) := by
  refine va_iast S.1 S.2.1 hJ.2.2.2.2 hJ.2.1 hJ.D hJ.2.2.1 36 7 (wr_at G σ a _) rfl (vp_nI hj hn) hdg (fun H1 locs1 hP hD hS => kk H1 locs1 ⟨hJ.1, ?_, hS, hJ.2.2.2.1, hJ.2.2.2.2⟩)
  rw [wr_set, nI_clamp (by omega)] at hP
  exact hP
theorem j_ld (S : CallFix p m c cc nL s args AL own) (hJ : Jv G σ a cA n f s H locs) {j : Nat} (hj : j < n) (hn : n < 2 ^ 31) (hdg : decode cc pc = .ok (.iaload, 1))
    (kk : W p l e R s m args below meth c H locs cells slots Q (F0 m (pc + 1) ls (.int (f j) :: rest))) : W p l e R s m args below meth c H locs cells slots Q (F0 m pc ls (.int (nI j) :: .ref a :: rest)) := by
  refine va_iald S.1 S.2.1 hJ.2.2.2.2 hJ.2.1 36 7 (wr_at G σ a _) rfl (vp_nI hj hn) hdg ?_
  rw [nI_clamp (by omega)]
  exact kk
theorem j_len (S : CallFix p m c cc nL s args AL own) (hJ : Jv G σ a cA n f s H locs) (hdg : decode cc pc = .ok (.arraylength, 1))
    (kk : W p l e R s m args below meth c H locs cells slots Q (F0 m (pc + 1) ls (.int (nI n) :: rest))) : W p l e R s m args below meth c H locs cells slots Q (F0 m pc ls (.ref a :: rest)) :=
  va_alen S.1 S.2.1 hJ.2.2.2.2 hJ.2.1 36 7 (wr_at G σ a _) rfl rfl hdg kk
/-! calls beside the row: the callee's world is without it -/
theorem ev_cut {U : State} (h : Ev G U) (h1 : ∀ i : Nat, i < 36 → gB G i ≠ a) (h2 : a < U.heap.size) : Ev (cut G a) U := by
  obtain ⟨⟨g0, g1, g2⟩, g3, g4, g5, g6, g7, g8⟩ := h
  exact ⟨⟨g0, fun i hi => ⟨g1 i hi, h1 i hi⟩, g2⟩, fun q hq => ⟨g3 q hq, by omega⟩, g4, fun k hk => (g5 k hk).narrow (fun _ z => z.1), g6.narrow (fun _ z => z.1), g7.narrow (fun _ z => z.1), g8⟩
theorem wd_cut (hJ : Jv G σ a cA n f s H locs) {U : State} (hU : U.heap = H) (hW : s.WarmedH U.vm) : Wd (cut G a) σ U :=
  ⟨ev_cut (env_go hW hU hJ.2.2.1 hJ.1) hJ.2.2.2.1.1 (by rw [hU]; exact hJ.lt), by rw [hU]; exact hJ.iv.2.1⟩
theorem rnVj {y : MethodName} {bytes : ByteArray} {maxL d na index b : Nat} {C : String} {ret : Option FieldType} {As : List Value} {Qc : Array Value → State → Outcome → State → Prop} (S : CallFix p m c cc nL s args AL own) (hJ : Jv G σ a cA n f s H locs) (hM : Ct l (cut G a) y bytes maxL ret d mc ms (.ref b :: As) σ Qc)
    (cw : CallW R s args own C index y bytes maxL ret (.code y bytes maxL ret :: AL) (rm d mc ms) mc ms na) (hrc : ∃ cell : Cell, H[b]? = some cell ∧ cell.vm.isStatics = false ∧ s.vm.findClass C = some cell.cls) (hn : As.length = na) (hsz : ls.size = nL) (hW : (rest.map fun v => v.category).sum ≤ 8)
    (hdg : decode cc pc = .ok (.invokevirtual index, 3)) (hf : cells + mc ≤ R.cells ∧ slots + ms ≤ R.slots) :
    va_Run p l e R s m args below meth c H locs cells slots mc ms (F0 m pc ls (As.reverse ++ .ref b :: rest)) rest (Qc (Value.ref b :: As).toArray) (gA (cut G a)) :=
  va_runV S hM cw ⟨wd_pc, hrc, fun _ hU hWm => ⟨rfl, wd_cut hJ hU hWm⟩⟩ rfl hn hsz rfl (lv_room hW) hdg hf
theorem rnSj {y : MethodName} {bytes : ByteArray} {maxL d na index : Nat} {ret : Option FieldType} {As : List Value} {Qc : Array Value → State → Outcome → State → Prop} (S : CallFix p m c cc nL s args AL own) (hJ : Jv G σ a cA n f s H locs) (hM : Ct l (cut G a) y bytes maxL ret d mc ms As σ Qc)
    (cw : CallB R s args own index y bytes maxL ret (.code y bytes maxL ret :: AL) (rm d mc ms) mc ms na ∧ (Cond.static y).before args s = true) (hn : As.length = na) (hsz : ls.size = nL) (hW : (rest.map fun v => v.category).sum ≤ 8)
    (hdg : decode cc pc = .ok (.invokestatic index, 3)) (hf : cells + mc ≤ R.cells ∧ slots + ms ≤ R.slots) :
    va_Run p l e R s m args below meth c H locs cells slots mc ms (F0 m pc ls (As.reverse ++ rest)) rest (Qc As.toArray) (gA (cut G a)) :=
  va_runS S hM cw ⟨wd_pc, fun _ hU hWm => ⟨rfl, wd_cut hJ hU hWm⟩⟩ rfl hn hsz rfl (lv_room hW) hdg hf
theorem clj_i {post : Int32 → St → Prop} {st0 : List Value} {a0 : Array Value} (hJ : Jv G σ a cA n f s H locs) (hr : va_Run p l e R s m args below meth c H locs cells slots mc ms (F0 m pc ls st0) rest (Qi (cut G a) post a0) (gA (cut G a)))
    (kk : ∀ (r : Int32) (σ' : St) (H1 : Heap) (locs1 : List Loc), post r σ' → Jv G σ' a cA n f s H1 locs1 → W p l e R s m args below meth c H1 locs1 (cells + mc) (slots + ms) Q (F0 m (pc + 3) ls (.int r :: rest))) : W p l e R s m args below meth c H locs cells slots Q (F0 m pc ls st0) := by
  refine va_calli hr hJ.2.2.1 (fun _ _ h => h.1) (fun _ h => h.1) (fun r u t H1 locs1 ht _ hp hb _ hk1 hS => kk r u H1 locs1 hp ⟨hJ.1, ?_, hS, hJ.2.2.2⟩)
  have hPc : va_P (gD G) vwCl (wl G u) H1 := by rw [← ht]; exact hb
  have hP1 : va_P (gD G) vwCl [(a, (.inl (cA, n, .inl f) : va_E))] H := fun k q hq => by
    rw [(one_at hq).2]
    exact hJ.2.1 36 _ (wr_at G σ a _)
  refine hPc.app (hP1.kept (fun k q hq => ?_))
  rw [(one_at hq).2]
  exact hk1 a hJ.lt (fun z => z.2 rfl)
/-- 1 or 0 out of a yes or no -/
theorem lj_bool (S : CallFix p m c cc nL s args AL own) {r : Int32} (hr : r = 0 ∨ r = 1) {t1 t2 : Nat} (d1 : decode cc pc = .ok (.ifCond .eq 7, 3)) (d2 : decode cc (pc + 3) = .ok (.iconst 1, 1)) (d3 : decode cc (pc + 3 + 1) = .ok (.goto 4, 3)) (d4 : decode cc t1 = .ok (.iconst 0, 1)) (h1 : t1 = pc + 7) (h2 : t2 = pc + 8)
    (kk : W p l e R s m args below meth c H locs cells slots Q (F0 m t2 ls (.int r :: rest))) : W p l e R s m args below meth c H locs cells slots Q (F0 m pc ls (.int r :: rest)) := by
  subst h1
  subst h2
  refine lv_if_eq (tgt := pc + 7) S.1 S.2.1 d1 (by omega) (fun h => ?_) (fun h => ?_)
  · refine lv_iconst (v := r) S.1 S.2.1 d4 (by rw [h]; rfl) kk
  · refine lv_iconst (v := r) S.1 S.2.1 d2 (by rw [hr.resolve_left h]; rfl) ?_
    exact lv_goto (tgt := pc + 8) S.1 S.2.1 d3 (by omega) kk
theorem lj_is (S : CallFix p m c cc nL s args AL own) {v k r : Int32} (hr : r = if v = k then 1 else 0) {t1 t2 : Nat} (d1 : decode cc pc = .ok (.if_icmp .ne 7, 3)) (d2 : decode cc (pc + 3) = .ok (.iconst 1, 1)) (d3 : decode cc (pc + 3 + 1) = .ok (.goto 4, 3)) (d4 : decode cc t1 = .ok (.iconst 0, 1)) (h1 : t1 = pc + 7) (h2 : t2 = pc + 8)
    (kk : W p l e R s m args below meth c H locs cells slots Q (F0 m t2 ls (.int r :: rest))) : W p l e R s m args below meth c H locs cells slots Q (F0 m pc ls (.int k :: .int v :: rest)) := by
  subst h1
  subst h2
  refine lv_icmp_ne (tgt := pc + 7) S.1 S.2.1 d1 (by omega) (fun h => ?_) (fun h => ?_)
  · refine lv_iconst (v := r) S.1 S.2.1 d4 (by rw [hr, if_neg h]; rfl) kk
  · refine lv_iconst (v := r) S.1 S.2.1 d2 (by rw [hr, if_pos h]; rfl) ?_
    exact lv_goto (tgt := pc + 8) S.1 S.2.1 d3 (by omega) kk
end JROW
/-- a row's part of the checksum -/
def rowD (f : Nat → Int32) (d0 : Int64) : Nat → Int64
  | 0 => d0
  | k + 1 => rowD f d0 k * 31 + (f k).toInt64
