/-! what the walks need of the pure functions -/
theorem kx_in {x N : Int32} {n : Nat} (hN : N.toInt = n) (h : ¬ xf_isBelow x N = 0) : vp_in x n := by
  unfold xf_isBelow at h
  rw [vp_in_iff]
  by_cases h0 : x < 0
  · rw [if_pos h0] at h; exact absurd rfl h
  · rw [if_neg h0] at h
    by_cases h1 : N ≤ x
    · rw [if_pos h1] at h; exact absurd rfl h
    · rw [Int32.lt_iff_toInt_lt] at h0
      rw [Int32.le_iff_toInt_le] at h1
      have z : (0 : Int32).toInt = 0 := by decide
      omega
theorem km_in {x N : Int32} {n : Nat} (hN : N.toInt = n) (h : mf_out x N = 0) : vp_in x n := by
  unfold mf_out at h
  rw [vp_in_iff]
  by_cases h0 : x < 0
  · rw [if_pos h0] at h; exact absurd h (by decide)
  · rw [if_neg h0] at h
    by_cases h1 : x < N
    · rw [Int32.lt_iff_toInt_lt] at h0 h1
      have z : (0 : Int32).toInt = 0 := by decide
      omega
    · rw [if_neg h1] at h; exact absurd h (by decide)
theorem kx_nfull_0 {S u : kx_S} {r : Int32} (h : xf_isFull_0 S = (r, u)) (h0 : r = 0) : ¬ kI u 9 0 = 4 := by
  unfold xf_isFull_0 at h
  by_cases c : kI S 9 0 = 4
  · rw [if_pos c] at h; cases h; exact absurd h0 (by decide)
  · rw [if_neg c] at h; cases h; exact c
theorem kx_nfull_1 {S u : kx_S} {r : Int32} (h : xf_isFull_1 S = (r, u)) (h0 : r = 0) : ¬ kI u 9 1 = 4 := by
  unfold xf_isFull_1 at h
  by_cases c : kI S 9 1 = 4
  · rw [if_pos c] at h; cases h; exact absurd h0 (by decide)
  · rw [if_neg c] at h; cases h; exact c
theorem kx_nempty_0 {S u : kx_S} {r : Int32} (h : xf_isEmpty_0 S = (r, u)) (h0 : r = 0) : ¬ kI u 9 0 = 0 := by
  unfold xf_isEmpty_0 at h
  by_cases c : kI S 9 0 = 0
  · rw [if_pos c] at h; cases h; exact absurd h0 (by decide)
  · rw [if_neg c] at h; cases h; exact c
theorem kx_nempty_1 {S u : kx_S} {r : Int32} (h : xf_isEmpty_1 S = (r, u)) (h0 : r = 0) : ¬ kI u 9 1 = 0 := by
  unfold xf_isEmpty_1 at h
  by_cases c : kI S 9 1 = 0
  · rw [if_pos c] at h; cases h; exact absurd h0 (by decide)
  · rw [if_neg c] at h; cases h; exact c
/-! the reference's weighing touches 'urgent' alone -/
theorem mf_L66_fr : ∀ (n k : Nat) (μ : km_S) (f i : Nat), f ≠ 22 → mI (mf_weigh_L66 n k μ) f i = mI μ f i := by
  intro n
  induction n with
  | zero => intro k μ f i hf; rfl
  | succ n ih =>
    intro k μ f i hf
    rw [mf_weigh_L66]
    repeat' split
    all_goals first
      | exact ih _ _ _ _ hf
      | rw [ih _ _ _ _ hf, mI_sM, if_neg (fun h => hf h.1)]
theorem mf_L58_fr : ∀ (n k : Nat) (μ : km_S) (f i : Nat), f ≠ 22 → mI (mf_weigh_L58 n k μ) f i = mI μ f i := by
  intro n
  induction n with
  | zero => intro k μ f i hf; rfl
  | succ n ih =>
    intro k μ f i hf
    rw [mf_weigh_L58, kk_v, ih _ _ _ _ hf, mf_L66_fr _ _ _ _ _ hf]
theorem mf_L2_fr : ∀ (n k : Nat) (μ : km_S) (f i : Nat), f ≠ 22 → mI (mf_weigh_L2 n k μ) f i = mI μ f i := by
  intro n
  induction n with
  | zero => intro k μ f i hf; exact mf_L58_fr _ _ _ _ _ hf
  | succ n ih =>
    intro k μ f i hf
    rw [mf_weigh_L2]
    repeat' split
    all_goals rw [ih _ _ _ _ hf, mI_sM, if_neg (fun h => hf h.1)]
theorem mf_weigh_fr (μ : km_S) (f i : Nat) (hf : f ≠ 22) : mI (mf_weigh μ) f i = mI μ f i := mf_L2_fr _ _ _ _ _ hf
theorem mf_run_L8_st : ∀ (n k : Nat) (b : Int32) (μ : km_S), (mf_running_L8 n k b μ).2 = μ := by
  intro n
  induction n with
  | zero => intro k b μ; rfl
  | succ n ih =>
    intro k b μ
    rw [mf_running_L8]
    repeat' split
    all_goals exact ih _ _ _
theorem mf_fw_L8_st (w : Int32) : ∀ (n k : Nat) (b : Int32) (μ : km_S), (mf_firstWaiter_L8 w n k b μ).2 = μ := by
  intro n
  induction n with
  | zero => intro k b μ; rfl
  | succ n ih =>
    intro k b μ
    rw [mf_firstWaiter_L8]
    repeat' split
    all_goals exact ih _ _ _
theorem mf_run_st (μ : km_S) : (mf_running μ).2 = mf_weigh μ := by
  rw [mf_running, kk_v]
  exact mf_run_L8_st _ _ _ _
theorem mf_fw_st (μ : km_S) (w : Int32) : (mf_firstWaiter μ w).2 = mf_weigh μ := by
  rw [mf_firstWaiter, kk_v]
  exact mf_fw_L8_st _ _ _ _ _
theorem mf_fw_fr {μ u : km_S} {w r : Int32} (h : mf_firstWaiter μ w = (r, u)) (f i : Nat) (hf : f ≠ 22) : mI u f i = mI μ f i := by
  have e := mf_fw_st μ w
  rw [h] at e
  have e2 : u = mf_weigh μ := e
  rw [e2]
  exact mf_weigh_fr μ f i hf
theorem mf_run_fr {μ u : km_S} {r : Int32} (h : mf_running μ = (r, u)) (f i : Nat) (hf : f ≠ 22) : mI u f i = mI μ f i := by
  have e := mf_run_st μ
  rw [h] at e
  have e2 : u = mf_weigh μ := e
  rw [e2]
  exact mf_weigh_fr μ f i hf
theorem km_mes_send {s u : km_S} {r w q v : Int32} {j : Nat} (hw : km_wf s) (h : mf_firstWaiter (sM s 11 j v) w = (r, u)) (c : ¬ mI s 19 q.toNatClampNeg = 4) (hq : vp_in q 2) : ∃ j, j < 4 ∧ mI u 19 q.toNatClampNeg = nI j := by
  obtain ⟨i, hi, e⟩ := hw.2.2 _ (kx_lt hq)
  refine ⟨i, ?_, ?_⟩
  · rcases (show i < 4 ∨ i = 4 by omega) with h4 | rfl
    · exact h4
    · exact absurd e c
  · rw [mf_fw_fr h 19 _ (by decide), mI_sM, if_neg (fun h => absurd h.1 (by decide)), e]
theorem km_mes_rec {s S u : km_S} {r w q : Int32} {k : Nat} (hk : q.toNatClampNeg = k) (hw : km_wf s) (hq : k < 2) (c : ¬ mI s 19 k = 0) (h : mf_firstWaiter S w = (r, u)) (e : mI S 19 k = mI s 19 k - 1) : ∃ j, j < 4 ∧ mI u 19 q.toNatClampNeg = nI j := by
  rw [hk, mf_fw_fr h 19 _ (by decide), e]
  obtain ⟨j, hj, e2⟩ := hw.2.2 k hq
  rw [e2] at c ⊢
  rcases (show j = 0 ∨ j = 1 ∨ j = 2 ∨ j = 3 ∨ j = 4 by omega) with rfl | rfl | rfl | rfl | rfl
  · exact absurd rfl c
  · exact ⟨0, by decide, by decide⟩
  · exact ⟨1, by decide, by decide⟩
  · exact ⟨2, by decide, by decide⟩
  · exact ⟨3, by decide, by decide⟩
