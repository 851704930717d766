theorem hourXs_2 (σ : St) (h : Nat) : (hourXs h σ).2 = σ.2 ∧ (gX (hourXs h σ)).1 = (gX σ).1 := by
  induction h with
  | zero => exact ⟨rfl, rfl⟩
  | succ h ih => exact ⟨ih.1, ih.2⟩
set_option maxRecDepth 100000 in
set_option maxHeartbeats 4000000 in
theorem pr_pass (l : Launch) (hst9 : l.stackTraces = false) (G : Gt) (σ : St) (hR : Rel σ) (v : Int32) : Pair l G yL_pass cL_pass 4 [(0, 9, 12, 15)] yX4_pass cX4_pass 2 (some .int) [.int v] σ := by
  obtain ⟨n, th, mk, lf, nw, kp, hX, hM, hpic⟩ := hR
  have hX4 : gX σ = (nI n, (gX σ).2.1, (gX σ).2.2.1, (gX σ).2.2.2) := by rw [← hX]
  have hn20 := hpic.1
  rcases h_case v with ⟨k, hk1, hk, rfl⟩ | hb
  · refine ⟨0, fun σ1 => ∃ (x : Int32) (σ0 : St), (x = (gX (hourXs k σ)).2.1 - (gX σ).2.1 ∧ σ0 = hourXs k σ) ∧ σ1 = setO σ0 x.toInt64, (w_pass (P := fun x σ0 => x = (gX (hourXs k σ)).2.1 - (gX σ).2.1 ∧ σ0 = hourXs k σ) l G σ _ (by decide) (c_pass l G σ hpic.ok hk1 hk)).post (fun r σ' h => ⟨h.1, h.2⟩), ?_⟩
    rintro σ1 ⟨x, σ0, ⟨rfl, rfl⟩, rfl⟩
    refine ⟨6, by decide, (m_pass l G (setO (hourXs k σ) _) ((congrArg (fun z => z.1) (hourXs_2 σ k).1).trans hM) hpic hk1 hk).post ?_⟩
    rintro r σ2 ⟨rfl, mk2, lf2, nw2, kp2, rfl, hp2⟩
    exact ⟨rfl, fun _ => rfl, n, 0, mk2, lf2, nw2, kp2, ((hourXs_2 σ k).2.trans hX), rfl, hp2.cong (fun _ _ => rfl) (fun _ _ => rfl) rfl⟩
  · refine ⟨1, fun σ1 => σ1 = σ, wx_pass_1 l G σ _ (by decide) (x_pass l hst9 G σ hb), ?_⟩
    rintro σ1 rfl
    refine ⟨6, by decide, (m_pass_b l G _ hM hpic v hb).post ?_⟩
    rintro r σ2 ⟨mk2, lf2, nw2, kp2, rfl, hp2⟩
    exact ⟨rfl, fun h => absurd h (by decide), n, _, mk2, lf2, nw2, kp2, hX, rfl, hp2.cong (fun _ _ => rfl) (fun _ _ => rfl) rfl⟩
