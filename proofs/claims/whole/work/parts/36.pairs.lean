theorem Ct.post {l : Launch} {G : Gt} {y : MethodName} {cc : ByteArray} {maxL : Nat} {ret : Option FieldType} {d mc ms : Nat} {av : List Value} {σ : St} {P P' : Int32 → St → Prop} (h : Ct l G y cc maxL ret d mc ms av σ (Qi G P)) (hp : ∀ r σ', P r σ' → P' r σ') : Ct l G y cc maxL ret d mc ms av σ (Qi G P') := by
  unfold Ct Met at h ⊢
  refine MetFree.mono h (fun _ _ h => h) (fun _ _ _ _ _ h => h) ?_
  intro a st o t _ hq
  obtain ⟨⟨⟨r, u, h1, h2, h3⟩, h4⟩, h5⟩ := hq
  exact ⟨⟨⟨r, u, h1, hp r u h2, h3⟩, h4⟩, h5⟩
theorem CtL.post {l : Launch} {G : Gt} {y : MethodName} {cc : ByteArray} {maxL : Nat} {hh : List (Nat × Nat × Nat × Nat)} {d : Nat} {av : List Value} {σ : St} {P P' : Int32 → St → Prop} (h : CtL l G y cc maxL hh d av σ (Qi G P)) (hp : ∀ r σ', P r σ' → P' r σ') : CtL l G y cc maxL hh d av σ (Qi G P') := by
  unfold CtL Met at h ⊢
  refine MetFree.mono h (fun _ _ h => h) (fun _ _ _ _ _ h => h) ?_
  intro a st o t _ hq
  obtain ⟨⟨⟨r, u, h1, h2, h3⟩, h4⟩, h5⟩ := hq
  exact ⟨⟨⟨r, u, h1, hp r u h2, h3⟩, h4⟩, h5⟩
/-- the class and the reference stand alike -/
def Rel (σ : St) : Prop := ∃ (n : Nat) (th : Int32) (mk lf nw kp : Nat → Int32), (gX σ).1 = nI n ∧ gM σ = (th, nI n, mk, lf, nw, kp) ∧ Pic σ n mk lf nw
/-- a wrapper of the class's method and the reference's method answer alike, and stand alike again -/
def Pair (l : Launch) (G : Gt) (yL : MethodName) (cL : ByteArray) (mL : Nat) (hh : List (Nat × Nat × Nat × Nat)) (y4 : MethodName) (c4 : ByteArray) (m4 : Nat) (ret : Option FieldType) (vs : List Value) (σ : St) : Prop :=
  ∃ (k : Int32) (P1 : St → Prop), CtL l G yL cL mL hh 9 (.ref (gB G 0) :: vs ++ [.ref (gB G 8)]) σ (Qi G (fun r σ1 => r = k ∧ P1 σ1)) ∧
    ∀ σ1, P1 σ1 → ∃ d : Nat, d ≤ 10 ∧ Ct l G y4 c4 m4 ret d 0 0 (.ref (gB G 3) :: vs) σ1 (Qi G (fun r σ2 => (gM σ2).1 = k ∧ (k = 0 → σ2.2.2 0 = r.toInt64) ∧ Rel σ2))
/-- an int is nI of a number below n, or out of range -/
theorem nI_case (v : Int32) {n : Nat} (hn : n ≤ 1000) : (∃ k, k < n ∧ v = nI k) ∨ (v < 0 ∨ nI n ≤ v) := by
  by_cases h0 : v < 0
  · exact Or.inr (Or.inl h0)
  by_cases h1 : nI n ≤ v
  · exact Or.inr (Or.inr h1)
  obtain ⟨k, hk, rfl⟩ := nI_of h0
  by_cases h2 : k < n
  · exact Or.inl ⟨k, h2, rfl⟩
  · exact absurd (nI_le (by omega) hk) h1
theorem Rel.tr {σ σ1 : St} {x : Int64} {n : Nat} {mk lf nw : Nat → Int32} (hp : Pic σ n mk lf nw) (t : Tr σ σ1) : Pic (setO σ1 x) n mk lf nw :=
  hp.cong (fun k hk => t.S hk) (fun q hq => t.P hq) (by show (gX σ1).2 = _; rw [t.X])
theorem pr_settingOf (l : Launch) (hst9 : l.stackTraces = false) (G : Gt) (σ : St) (hR : Rel σ) (v : Int32) : Pair l G yL_settingOf cL_settingOf 4 [(0, 9, 12, 13)] yX4_settingOf cX4_settingOf 2 (some .int) [.int v] σ := by
  obtain ⟨n, th, mk, lf, nw, kp, hX, hM, hpic⟩ := hR
  rcases nI_case v (n := 5) (by decide) with ⟨k, hk, rfl⟩ | hb
  · refine ⟨0, fun σ1 => ∃ x σ0, (x = (gS σ k).1 ∧ σ0 = σ) ∧ σ1 = setO σ0 x.toInt64, (w_settingOf l G σ _ (by decide) (c_settingOf l G σ hk)).post (fun r σ' h => ⟨h.1, h.2⟩), ?_⟩
    rintro σ1 ⟨x, σ0, ⟨rfl, rfl⟩, rfl⟩
    refine ⟨4, by decide, (m_settingOf l G (setO _ _) hM hpic hk).post ?_⟩
    rintro r σ2 ⟨rfl, mk2, lf2, nw2, kp2, rfl, hp2⟩
    exact ⟨rfl, fun _ => rfl, n, 0, mk2, lf2, nw2, kp2, hX, rfl, hp2.cong (fun _ _ => rfl) (fun _ _ => rfl) rfl⟩
  · refine ⟨1, fun σ1 => σ1 = σ, wx_settingOf_1 l G σ v (by decide) (x_settingOf l hst9 G σ hb), ?_⟩
    rintro σ1 rfl
    refine ⟨4, by decide, (m_settingOf_b l G _ hM hpic v hb).post ?_⟩
    rintro r σ2 ⟨mk2, lf2, nw2, kp2, rfl, hp2⟩
    exact ⟨rfl, fun h => absurd h (by decide), n, 1, mk2, lf2, nw2, kp2, hX, rfl, hp2.cong (fun _ _ => rfl) (fun _ _ => rfl) rfl⟩
