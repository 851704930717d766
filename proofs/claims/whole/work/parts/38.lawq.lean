set_option maxRecDepth 100000 in
set_option maxHeartbeats 4000000 in
theorem pr_set (l : Launch) (hst9 : l.stackTraces = false) (G : Gt) (σ : St) (hR : Rel σ) (v v2 : Int32) : Pair l G yL_set cL_set 5 [(0, 10, 13, 13), (0, 10, 17, 15)] yX4_set cX4_set 4 (some .int) [.int v, .int v2] σ := by
  obtain ⟨n, th, mk, lf, nw, kp, hX, hM, hpic⟩ := hR
  have hX4 : gX σ = (nI n, (gX σ).2.1, (gX σ).2.2.1, (gX σ).2.2.2) := by rw [← hX]
  have hn20 := hpic.1
  rcases nI_case v (n := 5) (by decide) with ⟨k, hk, rfl⟩ | hb
  · by_cases h1 : v2 < -30 ∨ -5 < v2
    · refine ⟨2, fun σ1 => σ1 = σ, wx_set_2 l G σ _ _ (by decide) (x_set_h l hst9 G σ hk h1), ?_⟩
      rintro σ1 rfl
      refine ⟨3, by decide, (m_set_b2 l G _ hM hpic hk v2 h1).post ?_⟩
      rintro r σ2 ⟨mk2, lf2, nw2, kp2, rfl, hp2⟩
      exact ⟨rfl, fun h => absurd h (by decide), n, _, mk2, lf2, nw2, kp2, hX, rfl, hp2.cong (fun _ _ => rfl) (fun _ _ => rfl) rfl⟩
    have hv1 : ¬ v2 < -30 := fun q => h1 (Or.inl q)
    have hv2 : v2 ≤ -5 := Int32.not_lt.mp (fun q => h1 (Or.inr q))
    · refine ⟨0, fun σ1 => ∃ (x : Int32) (σ0 : St), (x = (gS σ k).1 ∧ σ0 = setS σ k (v2, (gS σ k).2)) ∧ σ1 = setO σ0 x.toInt64, (w_set (P := fun x σ0 => x = (gS σ k).1 ∧ σ0 = setS σ k (v2, (gS σ k).2)) l G σ _ _ (by decide) (c_set l G σ hk hv1 hv2)).post (fun r σ' h => ⟨h.1, h.2⟩), ?_⟩
      rintro σ1 ⟨x, σ0, ⟨rfl, rfl⟩, rfl⟩
      refine ⟨3, by decide, (m_set l G (setO (setS σ k (v2, (gS σ k).2)) _) hM hpic hk (Int32.not_lt.mp hv1) hv2).post ?_⟩
      rintro r σ2 ⟨rfl, mk2, lf2, nw2, kp2, rfl, hp2⟩
      exact ⟨rfl, fun _ => rfl, n, 0, mk2, lf2, nw2, kp2, hX, rfl, hp2.cong (fun _ _ => rfl) (fun _ _ => rfl) rfl⟩
  · refine ⟨1, fun σ1 => σ1 = σ, wx_set_1 l G σ _ _ (by decide) (x_set_s l hst9 G σ v2 hb), ?_⟩
    rintro σ1 rfl
    refine ⟨3, by decide, (m_set_b1 l G _ hM hpic v v2 hb).post ?_⟩
    rintro r σ2 ⟨mk2, lf2, nw2, kp2, rfl, hp2⟩
    exact ⟨rfl, fun h => absurd h (by decide), n, _, mk2, lf2, nw2, kp2, hX, rfl, hp2.cong (fun _ _ => rfl) (fun _ _ => rfl) rfl⟩
set_option maxRecDepth 100000 in
set_option maxHeartbeats 4000000 in
theorem pr_keep (l : Launch) (hst9 : l.stackTraces = false) (G : Gt) (σ : St) (hR : Rel σ) (v : Int32) : Pair l G yL_keep cL_keep 4 [(0, 9, 12, 13), (0, 9, 15, 17)] yX4_keep cX4_keep 2 (some .int) [.int v] σ := by
  obtain ⟨n, th, mk, lf, nw, kp, hX, hM, hpic⟩ := hR
  have hX4 : gX σ = (nI n, (gX σ).2.1, (gX σ).2.2.1, (gX σ).2.2.2) := by rw [← hX]
  have hn20 := hpic.1
  rcases nI_case v (n := n) (by omega) with ⟨k, hk, rfl⟩ | hb
  · have hs6 := (hpic.ok k (by omega)).2
    by_cases hs : (gP σ k).2.1 < 5
    · refine ⟨0, fun σ1 => ∃ (x : Int32) (σ0 : St), (x = (gP σ k).2.2.2.1 - (gP σ k).2.2.2.2.1 ∧ σ0 = keptS σ k) ∧ σ1 = setO σ0 x.toInt64, (w_keep (P := fun x σ0 => x = (gP σ k).2.2.2.1 - (gP σ k).2.2.2.2.1 ∧ σ0 = keptS σ k) l G σ _ (by decide) (c_keep l G σ hpic.ok hk hn20 hX4 hs)).post (fun r σ' h => ⟨h.1, h.2⟩), ?_⟩
      rintro σ1 ⟨x, σ0, ⟨rfl, rfl⟩, rfl⟩
      refine ⟨4, by decide, (m_keep l G (setO (keptS σ k) _) hM hpic hk hs).post ?_⟩
      rintro r σ2 ⟨rfl, mk2, lf2, nw2, kp2, rfl, hp2⟩
      exact ⟨rfl, fun _ => rfl, n, 0, mk2, lf2, nw2, kp2, hX, rfl, hp2.cong (fun _ _ => rfl) (fun _ _ => rfl) rfl⟩
    · refine ⟨2, fun σ1 => σ1 = σ, wx_keep_2 l G σ _ (by decide) (x_keep_n l hst9 G σ hk hn20 hX4 (by omega)), ?_⟩
      rintro σ1 rfl
      refine ⟨4, by decide, (m_keep_b2 l G _ hM hpic hk hs).post ?_⟩
      rintro r σ2 ⟨mk2, lf2, nw2, kp2, rfl, hp2⟩
      exact ⟨rfl, fun h => absurd h (by decide), n, _, mk2, lf2, nw2, kp2, hX, rfl, hp2.cong (fun _ _ => rfl) (fun _ _ => rfl) rfl⟩
  · refine ⟨1, fun σ1 => σ1 = σ, wx_keep_1 l G σ _ (by decide) (x_keep_p l hst9 G σ hX4 hb), ?_⟩
    rintro σ1 rfl
    refine ⟨4, by decide, (m_keep_b1 l G _ hM hpic v hb).post ?_⟩
    rintro r σ2 ⟨mk2, lf2, nw2, kp2, rfl, hp2⟩
    exact ⟨rfl, fun h => absurd h (by decide), n, _, mk2, lf2, nw2, kp2, hX, rfl, hp2.cong (fun _ _ => rfl) (fun _ _ => rfl) rfl⟩
set_option maxRecDepth 100000 in
set_option maxHeartbeats 4000000 in
theorem pr_move (l : Launch) (hst9 : l.stackTraces = false) (G : Gt) (σ : St) (hR : Rel σ) (v v2 : Int32) : Pair l G yL_move cL_move 5 [(0, 10, 13, 13), (0, 10, 17, 17)] yX4_move cX4_move 4 (some .int) [.int v, .int v2] σ := by
  obtain ⟨n, th, mk, lf, nw, kp, hX, hM, hpic⟩ := hR
  have hX4 : gX σ = (nI n, (gX σ).2.1, (gX σ).2.2.1, (gX σ).2.2.2) := by rw [← hX]
  have hn20 := hpic.1
  rcases nI_case v (n := n) (by omega) with ⟨i, hi, rfl⟩ | hb
  · rcases nI_case v2 (n := 5) (by decide) with ⟨k, hk, rfl⟩ | hb
    · have hs6 := (hpic.ok i (by omega)).2
      by_cases hs : (gP σ i).2.1 < 5
      · by_cases hne : (gP σ i).2.1 = k
        · refine ⟨2, fun σ1 => σ1 = σ, wx_move_2 l G σ _ _ (by decide) (x_move_e l hst9 G σ hi hn20 hX4 hk hs hne), ?_⟩
          rintro σ1 rfl
          refine ⟨4, by decide, (m_move_b2s l G _ hM hpic hi hk hs hne).post ?_⟩
          rintro r σ2 ⟨mk2, lf2, nw2, kp2, rfl, hp2⟩
          exact ⟨rfl, fun h => absurd h (by decide), n, _, mk2, lf2, nw2, kp2, hX, rfl, hp2.cong (fun _ _ => rfl) (fun _ _ => rfl) rfl⟩
        by_cases hg3 : (gP σ i).1 = 3
        · refine ⟨2, fun σ1 => σ1 = σ, wx_move_2 l G σ _ _ (by decide) (x_move_t l hst9 G σ hpic.ok hi hn20 hX4 hk hs hne hg3), ?_⟩
          rintro σ1 rfl
          refine ⟨4, by decide, (m_move_b2t l G _ hM hpic hi hk hs hne hg3).post ?_⟩
          rintro r σ2 ⟨mk2, lf2, nw2, kp2, rfl, hp2⟩
          exact ⟨rfl, fun h => absurd h (by decide), n, _, mk2, lf2, nw2, kp2, hX, rfl, hp2.cong (fun _ _ => rfl) (fun _ _ => rfl) rfl⟩
        · refine ⟨0, fun σ1 => ∃ (x : Int32) (σ0 : St), (x = nI (gP σ i).2.1 ∧ σ0 = moved σ i k) ∧ σ1 = setO σ0 x.toInt64, (w_move (P := fun x σ0 => x = nI (gP σ i).2.1 ∧ σ0 = moved σ i k) l G σ _ _ (by decide) (c_move l G σ hpic.ok hi hn20 hk hX4 hs hne hg3)).post (fun r σ' h => ⟨h.1, h.2⟩), ?_⟩
          rintro σ1 ⟨x, σ0, ⟨rfl, rfl⟩, rfl⟩
          refine ⟨4, by decide, (m_move l G (setO (moved σ i k) _) hM hpic hi hk hs hne hg3).post ?_⟩
          rintro r σ2 ⟨rfl, mk2, lf2, nw2, kp2, rfl, hp2⟩
          exact ⟨rfl, fun _ => rfl, n, 0, mk2, lf2, nw2, kp2, hX, rfl, hp2.cong (fun _ _ => rfl) (fun _ _ => rfl) rfl⟩
      · refine ⟨2, fun σ1 => σ1 = σ, wx_move_2 l G σ _ _ (by decide) (x_move_n l hst9 G σ hi hn20 hX4 hk (by omega)), ?_⟩
        rintro σ1 rfl
        refine ⟨4, by decide, (m_move_b2n l G _ hM hpic hi hk hs).post ?_⟩
        rintro r σ2 ⟨mk2, lf2, nw2, kp2, rfl, hp2⟩
        exact ⟨rfl, fun h => absurd h (by decide), n, _, mk2, lf2, nw2, kp2, hX, rfl, hp2.cong (fun _ _ => rfl) (fun _ _ => rfl) rfl⟩
    · refine ⟨1, fun σ1 => σ1 = σ, wx_move_1 l G σ _ _ (by decide) (x_move_s l hst9 G σ hi hn20 hX4 hb), ?_⟩
      rintro σ1 rfl
      refine ⟨4, by decide, (m_move_b1s l G _ hM hpic hi v2 hb).post ?_⟩
      rintro r σ2 ⟨mk2, lf2, nw2, kp2, rfl, hp2⟩
      exact ⟨rfl, fun h => absurd h (by decide), n, _, mk2, lf2, nw2, kp2, hX, rfl, hp2.cong (fun _ _ => rfl) (fun _ _ => rfl) rfl⟩
  · refine ⟨1, fun σ1 => σ1 = σ, wx_move_1 l G σ _ _ (by decide) (x_move_p l hst9 G σ hX4 v2 hb), ?_⟩
    rintro σ1 rfl
    refine ⟨4, by decide, (m_move_b1p l G _ hM hpic v v2 hb).post ?_⟩
    rintro r σ2 ⟨mk2, lf2, nw2, kp2, rfl, hp2⟩
    exact ⟨rfl, fun h => absurd h (by decide), n, _, mk2, lf2, nw2, kp2, hX, rfl, hp2.cong (fun _ _ => rfl) (fun _ _ => rfl) rfl⟩
set_option maxRecDepth 100000 in
set_option maxHeartbeats 4000000 in
theorem pr_make (l : Launch) (hst9 : l.stackTraces = false) (G : Gt) (σ : St) (hR : Rel σ) (v v2 v3 : Int32) : Pair l G yL_make cL_make 6 [(0, 12, 15, 13), (0, 12, 19, 15), (0, 12, 23, 17)] yX4_make cX4_make 4 (some .int) [.int v, .int v2, .int v3] σ := by
  obtain ⟨n, th, mk, lf, nw, kp, hX, hM, hpic⟩ := hR
  have hX4 : gX σ = (nI n, (gX σ).2.1, (gX σ).2.2.1, (gX σ).2.2.2) := by rw [← hX]
  have hn20 := hpic.1
  rcases nI_case v (n := 6) (by decide) with ⟨a, ha, rfl⟩ | hb
  · rcases nI_case v3 (n := 5) (by decide) with ⟨k, hk, rfl⟩ | hb
    · rcases h_case v2 with ⟨b, hb1, hb2, rfl⟩ | hb
      · by_cases hn : n < 20
        · refine ⟨0, fun σ1 => ∃ (x : Int32) (σ0 : St), (x = nI n ∧ σ0 = setX (setS (setP σ n (1, k, nI a, nI b, 0, 20)) k ((gS σ k).1, openH (gS σ k).2)) (nI (n + 1), (gX σ).2.1, (gX σ).2.2.1, (gX σ).2.2.2)) ∧ σ1 = setO σ0 x.toInt64, (w_make (P := fun x σ0 => x = nI n ∧ σ0 = setX (setS (setP σ n (1, k, nI a, nI b, 0, 20)) k ((gS σ k).1, openH (gS σ k).2)) (nI (n + 1), (gX σ).2.1, (gX σ).2.2.1, (gX σ).2.2.2)) l G σ _ _ _ (by decide) (c_make l G σ ha hb1 hb2 hk hn hX4)).post (fun r σ' h => ⟨h.1, h.2⟩), ?_⟩
          rintro σ1 ⟨x, σ0, ⟨rfl, rfl⟩, rfl⟩
          refine ⟨4, by decide, (m_make l G (setO (setX (setS (setP σ n (1, k, nI a, nI b, 0, 20)) k ((gS σ k).1, openH (gS σ k).2)) (nI (n + 1), (gX σ).2.1, (gX σ).2.2.1, (gX σ).2.2.2)) _) hM hpic hn ha hb1 hb2 hk).post ?_⟩
          rintro r σ2 ⟨rfl, mk2, lf2, nw2, kp2, rfl, hp2⟩
          exact ⟨rfl, fun _ => rfl, (n + 1), 0, mk2, lf2, nw2, kp2, rfl, rfl, hp2.cong (fun _ _ => rfl) (fun _ _ => rfl) rfl⟩
        obtain rfl : n = 20 := by omega
        · refine ⟨3, fun σ1 => σ1 = σ, wx_make_3 l G σ _ _ _ (by decide) (x_make_f l hst9 G σ ha hb1 hb2 hk hX4), ?_⟩
          rintro σ1 rfl
          refine ⟨4, by decide, (m_make_b3 l G _ hM hpic rfl ha hb1 hb2 hk).post ?_⟩
          rintro r σ2 ⟨mk2, lf2, nw2, kp2, rfl, hp2⟩
          exact ⟨rfl, fun h => absurd h (by decide), 20, _, mk2, lf2, nw2, kp2, hX, rfl, hp2.cong (fun _ _ => rfl) (fun _ _ => rfl) rfl⟩
      · refine ⟨2, fun σ1 => σ1 = σ, wx_make_2 l G σ _ _ _ (by decide) (x_make_l l hst9 G σ ha hk hb), ?_⟩
        rintro σ1 rfl
        refine ⟨4, by decide, (m_make_b2 l G _ hM hpic ha v2 hk hb).post ?_⟩
        rintro r σ2 ⟨mk2, lf2, nw2, kp2, rfl, hp2⟩
        exact ⟨rfl, fun h => absurd h (by decide), n, _, mk2, lf2, nw2, kp2, hX, rfl, hp2.cong (fun _ _ => rfl) (fun _ _ => rfl) rfl⟩
    · refine ⟨1, fun σ1 => σ1 = σ, wx_make_1 l G σ _ _ _ (by decide) (x_make_s l hst9 G σ ha v2 hb), ?_⟩
      rintro σ1 rfl
      refine ⟨4, by decide, (m_make_b1s l G _ hM hpic ha v2 v3 hb).post ?_⟩
      rintro r σ2 ⟨mk2, lf2, nw2, kp2, rfl, hp2⟩
      exact ⟨rfl, fun h => absurd h (by decide), n, _, mk2, lf2, nw2, kp2, hX, rfl, hp2.cong (fun _ _ => rfl) (fun _ _ => rfl) rfl⟩
  · refine ⟨1, fun σ1 => σ1 = σ, wx_make_1 l G σ _ _ _ (by decide) (x_make_m l hst9 G σ v2 v3 hb), ?_⟩
    rintro σ1 rfl
    refine ⟨4, by decide, (m_make_b1m l G _ hM hpic v v2 v3 hb).post ?_⟩
    rintro r σ2 ⟨mk2, lf2, nw2, kp2, rfl, hp2⟩
    exact ⟨rfl, fun h => absurd h (by decide), n, _, mk2, lf2, nw2, kp2, hX, rfl, hp2.cong (fun _ _ => rfl) (fun _ _ => rfl) rfl⟩
