/-! the weighing, and who comes first -/
def kx_hv (σ : kx_S) (t : Nat) : Int32 := if kI σ 16 t = 11 then kI σ 3 1 else if kI σ 16 t = 12 then kI σ 3 2 else -1
theorem xf_heir (σ : kx_S) (t : Nat) : xf_heirOf σ t = (kx_hv σ t, σ) := by
  unfold xf_heirOf kx_hv
  by_cases c1 : kI σ 16 t = 11
  · rw [if_pos c1, if_pos c1]
  · rw [if_neg c1, if_neg c1]
    by_cases c2 : kI σ 16 t = 12
    · rw [if_pos c2, if_pos c2]
    · rw [if_neg c2, if_neg c2]
def kr_e (σ : kx_S) (μ : km_S) : Prop := ∀ t, t < 8 → ¬ kI σ 10 t = 0 → kI σ 12 t = mI μ 22 t
theorem kk_s10 {x c : Int32} (h : x - 10 = c) : x = c + 10 := by
  rw [← h, Int32.sub_add_cancel]
theorem kr_step {N B x n k j : Nat} {r : Int32} {σ : kx_S} {μ : km_S} (hk : k < 8) (hj : j < 4) (h : kr N B x σ μ) (he : kr_e σ μ) (hst : kI σ 10 k = 2)
    (ih : ∀ (r : Int32) (σ : kx_S) (μ : km_S), kr N B x σ μ → kr_e σ μ → ∀ (r2 : Int32) (σ2 : kx_S) (μ2 : km_S), xf_inheritOnce_L13 n (k + 1) r σ = (r2, σ2) → mf_weigh_L66 n (k + 1) μ = μ2 → kr N B x σ2 μ2 ∧ kr_e σ2 μ2 ∧ (r2 = 0 → r = 0 ∧ σ2 = σ ∧ μ2 = μ))
    {r2 : Int32} {σ2 : kx_S} {μ2 : km_S}
    (h1 : (if kI σ 3 j = -1 then xf_inheritOnce_L13 n (k + 1) r σ else if kI σ 12 k ≤ kI σ 12 (kI σ 3 j).toNatClampNeg then xf_inheritOnce_L13 n (k + 1) r σ else xf_inheritOnce_L13 n (k + 1) 1 (sI σ 12 (kI σ 3 j).toNatClampNeg (kI σ 12 k))) = (r2, σ2))
    (h2 : (if mI μ 17 j < 0 then mf_weigh_L66 n (k + 1) μ else if mI μ 22 k ≤ mI μ 22 (mI μ 17 j).toNatClampNeg then mf_weigh_L66 n (k + 1) μ else mf_weigh_L66 n (k + 1) (sM μ 22 (mI μ 17 j).toNatClampNeg (mI μ 22 k))) = μ2) :
    kr N B x σ2 μ2 ∧ kr_e σ2 μ2 ∧ (r2 = 0 → r = 0 ∧ σ2 = σ ∧ μ2 = μ) := by
  obtain ⟨o1, o2⟩ := h.2.1 j hj
  rw [← o1] at h2
  rcases o2 with o2 | ⟨t, ht, o2, o3⟩
  · rw [o2, if_pos (by decide)] at h1
    rw [o2, if_pos (by decide)] at h2
    exact ih r σ μ h he r2 σ2 μ2 h1 h2
  · have hne : ¬ kI σ 10 t = 0 := by rcases o3 with o3 | o3 <;> rw [o3] <;> decide
    have hk0 : ¬ kI σ 10 k = 0 := by rw [hst]; decide
    have hn1 : ¬ nI t = -1 := fun q => by
      have := nI_pos (n := t) (by omega)
      rw [q] at this
      exact this (by decide)
    rw [o2, if_neg hn1, nI_clamp (n := t) (by omega)] at h1
    rw [o2, if_neg (nI_pos (by omega)), nI_clamp (n := t) (by omega), ← he k hk hk0, ← he t ht hne] at h2
    by_cases c : kI σ 12 k ≤ kI σ 12 t
    · rw [if_pos c] at h1 h2
      exact ih r σ μ h he r2 σ2 μ2 h1 h2
    · rw [if_neg c] at h1 h2
      have hK : kr N B x (sI σ 12 t (kI σ 12 k)) (sM μ 22 t (kI σ 12 k)) := kr_fr h (fun f i hf => by rw [kI_sI, if_neg (fun z => hf z.1)]) (fun _ _ => rfl) (fun f i hf => by rw [mI_sM, if_neg (fun z => hf z.1)])
      have hE : kr_e (sI σ 12 t (kI σ 12 k)) (sM μ 22 t (kI σ 12 k)) := by
        intro t2 ht2 hs
        rw [kI_sI, if_neg (by omega)] at hs
        rw [kI_sI, mI_sM]
        by_cases e : t2 = t
        · rw [if_pos ⟨rfl, e⟩, if_pos ⟨rfl, e⟩]
        · rw [if_neg (fun z => e z.2), if_neg (fun z => e z.2)]
          exact he t2 ht2 hs
      obtain ⟨a, b, c2⟩ := ih 1 _ _ hK hE r2 σ2 μ2 h1 h2
      exact ⟨a, b, fun z => absurd (c2 z).1 (by decide)⟩
theorem kr_L66 {N B x : Nat} : ∀ (n k : Nat) (r : Int32) (σ : kx_S) (μ : km_S), n + k = 8 → kr N B x σ μ → kr_e σ μ → ∀ (r2 : Int32) (σ2 : kx_S) (μ2 : km_S), xf_inheritOnce_L13 n k r σ = (r2, σ2) → mf_weigh_L66 n k μ = μ2 → kr N B x σ2 μ2 ∧ kr_e σ2 μ2 ∧ (r2 = 0 → r = 0 ∧ σ2 = σ ∧ μ2 = μ) := by
  intro n
  induction n with
  | zero =>
    intro k r σ μ hnk h he r2 σ2 μ2 h1 h2
    rw [xf_inheritOnce_L13] at h1
    rw [mf_weigh_L66] at h2
    cases h1
    subst h2
    exact ⟨h, he, fun z => ⟨z, rfl, rfl⟩⟩
  | succ n ih =>
    intro k r σ μ hnk h he r2 σ2 μ2 h1 h2
    have hk : k < 8 := by omega
    have T := h.2.2.2.2.2 k hk
    have ih2 := fun (r : Int32) (σ : kx_S) (μ : km_S) => ih (k + 1) r σ μ (by omega)
    rw [xf_inheritOnce_L13, kk_b_eq (xf_heir σ k)] at h1
    rw [mf_weigh_L66] at h2
    have hs2 : ∀ w : Int32, kI σ 16 k = w → ¬ w = 0 → kI σ 10 k = 2 := fun w e hw => by
      by_cases c : kI σ 10 k = 2
      · exact c
      · exact absurd (e.symm.trans (T.2.2.2.1 c)) hw
    by_cases c1 : kI σ 16 k = 11
    · have st := hs2 11 c1 (by decide)
      have m4 : mI μ 4 k = 2 := T.1.1 ▸ st
      have m8 : mI μ 8 k = 11 := T.1.2.1 ▸ c1
      rw [show kx_hv σ k = kI σ 3 1 from if_pos c1] at h1
      rw [if_pos m4, m8, if_pos (by decide : (11 - 10 : Int32) = 1), show ((11 : Int32) - 10).toNatClampNeg = 1 from by decide] at h2
      exact kr_step hk (by decide) h he st ih2 h1 h2
    · by_cases c2 : kI σ 16 k = 12
      · have st := hs2 12 c2 (by decide)
        have m4 : mI μ 4 k = 2 := T.1.1 ▸ st
        have m8 : mI μ 8 k = 12 := T.1.2.1 ▸ c2
        rw [show kx_hv σ k = kI σ 3 2 from (if_neg c1).trans (if_pos c2)] at h1
        rw [if_pos m4, m8, if_neg (by decide : ¬ (12 - 10 : Int32) = 1), if_pos (by decide : (12 - 10 : Int32) = 2), show ((12 : Int32) - 10).toNatClampNeg = 2 from by decide] at h2
        exact kr_step hk (by decide) h he st ih2 h1 h2
      · rw [show kx_hv σ k = -1 from (if_neg c1).trans (if_neg c2), if_pos rfl] at h1
        have d1 : ¬ mI μ 8 k - 10 = 1 := fun z => c1 (by rw [T.1.2.1, kk_s10 z]; decide)
        have d2 : ¬ mI μ 8 k - 10 = 2 := fun z => c2 (by rw [T.1.2.1, kk_s10 z]; decide)
        rw [if_neg d1, if_neg d2] at h2
        have h3 : mf_weigh_L66 n (k + 1) μ = μ2 := by
          by_cases c : mI μ 4 k = 2
          · rw [if_pos c] at h2; exact h2
          · rw [if_neg c] at h2; exact h2
        exact ih2 r σ μ h he r2 σ2 μ2 h1 h3
theorem mf_L58_stay {μ : km_S} (h : mf_weigh_L66 8 0 μ = μ) : ∀ n k, mf_weigh_L58 n k μ = μ := by
  intro n
  induction n with
  | zero => intro k; rfl
  | succ n ih => intro k; rw [mf_weigh_L58, kk_v, h]; exact ih (k + 1)
theorem kr_L58 {N B x : Nat} : ∀ (n k : Nat) (r : Int32) (σ : kx_S) (μ : km_S), kr N B x σ μ → kr_e σ μ → (r = 0 → mf_weigh_L66 8 0 μ = μ) → kr N B x (xf_work_L69 n k r σ) (mf_weigh_L58 n k μ) ∧ kr_e (xf_work_L69 n k r σ) (mf_weigh_L58 n k μ) := by
  intro n
  induction n with
  | zero => intro k r σ μ h he h0; exact ⟨h, he⟩
  | succ n ih =>
    intro k r σ μ h he h0
    by_cases c : r = 0
    · rw [mf_L58_stay (h0 c), xf_work_L69, if_pos c]
      exact ⟨h, he⟩
    · obtain ⟨r1, σ1, e1⟩ : ∃ r1 σ1, xf_inheritOnce σ = (r1, σ1) := ⟨_, _, rfl⟩
      rw [xf_work_L69, if_neg c, kk_b_eq e1, mf_weigh_L58, kk_v]
      obtain ⟨a, b, d⟩ := kr_L66 8 0 0 σ μ rfl h he r1 σ1 _ e1 rfl
      exact ih (k + 1) r1 σ1 _ a b (fun z => by obtain ⟨_, _, e4⟩ := d z; rw [e4, e4])
theorem kr_L2 {N B x : Nat} : ∀ (n k : Nat) (σ : kx_S) (μ : km_S), n + k = 8 → kr N B x σ μ → (∀ t, t < k → ¬ kI σ 10 t = 0 → kI σ 12 t = mI μ 22 t) → kr N B x (xf_work_L10 n k σ) (mf_weigh_L2 n k μ) ∧ kr_e (xf_work_L10 n k σ) (mf_weigh_L2 n k μ) := by
  intro n
  induction n with
  | zero =>
    intro k σ μ hnk h he
    exact kr_L58 8 0 1 σ μ h (fun t ht => he t (by omega)) (fun z => absurd z (by decide))
  | succ n ih =>
    intro k σ μ hnk h he
    have hk : k < 8 := by omega
    have T := h.2.2.2.2.2 k hk
    have go : ∀ vx vm : Int32, (¬ kI σ 10 k = 0 → vx = vm) → kr N B x (xf_work_L10 n (k + 1) (sI σ 12 k vx)) (mf_weigh_L2 n (k + 1) (sM μ 22 k vm)) ∧ kr_e (xf_work_L10 n (k + 1) (sI σ 12 k vx)) (mf_weigh_L2 n (k + 1) (sM μ 22 k vm)) := by
      intro vx vm hv
      refine ih (k + 1) _ _ (by omega) (kr_fr h (fun f i hf => by rw [kI_sI, if_neg (fun z => hf z.1)]) (fun _ _ => rfl) (fun f i hf => by rw [mI_sM, if_neg (fun z => hf z.1)])) (fun t ht hs => ?_)
      rw [kI_sI, if_neg (by omega)] at hs
      rw [kI_sI, mI_sM]
      by_cases e : t = k
      · rw [if_pos ⟨rfl, e⟩, if_pos ⟨rfl, e⟩]
        subst e
        exact hv hs
      · rw [if_neg (fun z => e z.2), if_neg (fun z => e z.2)]
        exact he t (by omega) hs
    rw [xf_work_L10, mf_weigh_L2, ← (h.2.1 3 (by decide)).1, ← h.1.2.1]
    by_cases c : kI σ 3 3 = nI k
    · rw [if_pos c, if_pos c]
      by_cases d : kI σ 1 0 ≤ mI μ 5 k
      · rw [if_pos d]
        exact go _ _ (fun hs => by
          rw [(T.2.1 hs).1, if_neg (Int32.not_lt.mpr d)])
      · rw [if_neg d]
        exact go _ _ (fun hs => by
          rw [(T.2.1 hs).1, if_pos (Int32.not_le.mp d)])
    · rw [if_neg c, if_neg c]
      exact go _ _ (fun hs => (T.2.1 hs).1)
theorem kr_weigh {N B x : Nat} {σ : kx_S} {μ : km_S} (h : kr N B x σ μ) : kr N B x (xf_work σ) (mf_weigh μ) ∧ kr_e (xf_work σ) (mf_weigh μ) := kr_L2 8 0 σ μ rfl h (fun t ht => by omega)
theorem xf_ahead (σ : kx_S) (k t : Nat) : xf_isAheadOf σ k t = (if kI σ 12 t < kI σ 12 k ∨ (kI σ 12 k = kI σ 12 t ∧ kJ σ 0 k < kJ σ 0 t) then 1 else 0, σ) := by
  unfold xf_isAheadOf
  by_cases c1 : kI σ 12 t < kI σ 12 k
  · rw [if_pos c1, if_pos (Or.inl c1)]
  · rw [if_neg c1]
    by_cases c2 : kI σ 12 k = kI σ 12 t
    · rw [if_pos c2]
      by_cases c3 : kJ σ 0 k < kJ σ 0 t
      · rw [if_neg (fun z => absurd ((lg_cmp_ge _ _).mp z) (Int64.not_le.mpr c3)), if_pos (Or.inr ⟨c2, c3⟩)]
      · rw [if_pos ((lg_cmp_ge _ _).mpr (Int64.not_lt.mp c3)), if_neg (fun z => z.elim c1 (fun y => c3 y.2))]
    · rw [if_neg c2, if_neg (fun z => z.elim c1 (fun y => c2 y.1))]
/-- the two answers: none and -1, or a thread and its number -/
def kr_a (o : Option Nat) (r : Int32) (P : Nat → Prop) : Prop := (o = none ∧ r = -1) ∨ ∃ t, t < 8 ∧ o = some t ∧ r = nI t ∧ P t
theorem kr_run_L {N B x : Nat} (hN : N < 2 ^ 30) : ∀ (n k : Nat) (best : Option Nat) (b : Int32) (σ : kx_S) (μ : km_S), n + k = 8 → kr N B x σ μ → kr_e σ μ → kr_a best b (fun t => kI σ 10 t = 1) → ∀ (o : Option Nat) (σ2 : kx_S) (r : Int32) (μ2 : km_S), xf_foremost_L20 1 0 n k best σ = (o, σ2) → mf_running_L8 n k b μ = (r, μ2) → σ2 = σ ∧ μ2 = μ ∧ kr_a o r (fun t => kI σ 10 t = 1) := by
  intro n
  induction n with
  | zero =>
    intro k best b σ μ hnk h he hb o σ2 r μ2 h1 h2
    rw [mf_running_L8] at h2
    cases h2
    rw [xf_foremost_L20] at h1
    cases best with
    | none => rw [kk_o_none] at h1; cases h1; exact ⟨rfl, rfl, hb⟩
    | some t => rw [kk_o_some] at h1; cases h1; exact ⟨rfl, rfl, hb⟩
  | succ n ih =>
    intro k best b σ μ hnk h he hb o σ2 r μ2 h1 h2
    have hk : k < 8 := by omega
    have T := h.2.2.2.2.2 k hk
    have ih2 := fun (best : Option Nat) (b : Int32) => ih (k + 1) best b σ μ (by omega) h he
    rw [xf_foremost_L20] at h1
    rw [mf_running_L8, ← T.1.1] at h2
    by_cases c : kI σ 10 k = 1
    · have on0 : kI σ 16 k = 0 := T.2.2.2.1 (by rw [c]; decide)
      have nk : kr_a (some k) (nI k) (fun t => kI σ 10 t = 1) := Or.inr ⟨k, hk, rfl, rfl, c⟩
      rw [if_pos c] at h2
      rcases hb with ⟨rfl, rfl⟩ | ⟨t, ht, rfl, rfl, hst⟩
      · rw [kk_o_none, if_pos c, if_pos on0] at h1
        rw [if_pos (by decide)] at h2
        exact ih2 _ _ nk o σ2 r μ2 h1 h2
      · have bt : kr_a (some t) (nI t) (fun t => kI σ 10 t = 1) := Or.inr ⟨t, ht, rfl, rfl, hst⟩
        have k0 : ¬ kI σ 10 k = 0 := by rw [c]; decide
        have t0 : ¬ kI σ 10 t = 0 := by rw [hst]; decide
        rw [kk_o_some, if_pos c, if_pos on0, kk_b_eq (xf_ahead σ k t)] at h1
        obtain ⟨a, ha, a1, a2⟩ := T.2.2.2.2.1 c
        obtain ⟨d, hd, d1, d2⟩ := (h.2.2.2.2.2 t ht).2.2.2.2.1 hst
        rw [if_neg (nI_pos (by omega)), nI_clamp (n := t) (by omega), ← he k hk k0, ← he t ht t0, a2, d2] at h2
        rw [a1, d1] at h1
        by_cases e1 : kI σ 12 t < kI σ 12 k
        · rw [if_pos (Or.inl e1), if_neg (by decide)] at h1
          rw [if_pos e1] at h2
          exact ih2 _ _ nk o σ2 r μ2 h1 h2
        · rw [if_neg e1] at h2
          by_cases e2 : kI σ 12 k = kI σ 12 t
          · rw [if_pos e2] at h2
            by_cases e3 : a < d
            · rw [if_pos (Or.inr ⟨e2, (pk_lLT (by omega) (by omega)).mpr e3⟩), if_neg (by decide)] at h1
              rw [if_neg (nI_ge e3 (by omega))] at h2
              exact ih2 _ _ nk o σ2 r μ2 h1 h2
            · rw [if_neg (show ¬ (kI σ 12 t < kI σ 12 k ∨ (kI σ 12 k = kI σ 12 t ∧ lN a < lN d)) from fun z => z.elim e1 (fun y => e3 ((pk_lLT (by omega) (by omega)).mp y.2))), if_pos rfl] at h1
              rw [if_pos (nI_le (by omega) (by omega))] at h2
              exact ih2 _ _ bt o σ2 r μ2 h1 h2
          · rw [if_neg e2] at h2
            rw [if_neg (show ¬ (kI σ 12 t < kI σ 12 k ∨ (kI σ 12 k = kI σ 12 t ∧ lN a < lN d)) from fun z => z.elim e1 (fun y => e2 y.1)), if_pos rfl] at h1
            exact ih2 _ _ bt o σ2 r μ2 h1 h2
    · rw [if_neg c] at h2
      refine ih2 best b hb o σ2 r μ2 ?_ h2
      cases best with
      | none => rw [kk_o_none, if_neg c] at h1; exact h1
      | some t => rw [kk_o_some, if_neg c] at h1; exact h1
theorem kr_fw_L {N B x : Nat} (hN : N < 2 ^ 30) (w : Int32) : ∀ (n k : Nat) (best : Option Nat) (b : Int32) (σ : kx_S) (μ : km_S), n + k = 8 → kr N B x σ μ → kr_e σ μ → kr_a best b (fun t => kI σ 10 t = 2 ∧ kI σ 16 t = w) → ∀ (o : Option Nat) (σ2 : kx_S) (r : Int32) (μ2 : km_S), xf_foremost_L20 2 w n k best σ = (o, σ2) → mf_firstWaiter_L8 w n k b μ = (r, μ2) → σ2 = σ ∧ μ2 = μ ∧ kr_a o r (fun t => kI σ 10 t = 2 ∧ kI σ 16 t = w) := by
  intro n
  induction n with
  | zero =>
    intro k best b σ μ hnk h he hb o σ2 r μ2 h1 h2
    rw [mf_firstWaiter_L8] at h2
    cases h2
    rw [xf_foremost_L20] at h1
    cases best with
    | none => rw [kk_o_none] at h1; cases h1; exact ⟨rfl, rfl, hb⟩
    | some t => rw [kk_o_some] at h1; cases h1; exact ⟨rfl, rfl, hb⟩
  | succ n ih =>
    intro k best b σ μ hnk h he hb o σ2 r μ2 h1 h2
    have hk : k < 8 := by omega
    have T := h.2.2.2.2.2 k hk
    have ih2 := fun (best : Option Nat) (b : Int32) => ih (k + 1) best b σ μ (by omega) h he
    rw [xf_foremost_L20] at h1
    rw [mf_firstWaiter_L8, ← T.1.1, ← T.1.2.1] at h2
    by_cases c : kI σ 10 k = 2
    · rw [if_pos c] at h2
      by_cases on0 : kI σ 16 k = w
      · rw [if_pos on0] at h2
        have nk : kr_a (some k) (nI k) (fun t => kI σ 10 t = 2 ∧ kI σ 16 t = w) := Or.inr ⟨k, hk, rfl, rfl, c, on0⟩
        rcases hb with ⟨rfl, rfl⟩ | ⟨t, ht, rfl, rfl, hst, hon⟩
        · rw [kk_o_none, if_pos c, if_pos on0] at h1
          rw [if_pos (by decide)] at h2
          exact ih2 _ _ nk o σ2 r μ2 h1 h2
        · have bt : kr_a (some t) (nI t) (fun t => kI σ 10 t = 2 ∧ kI σ 16 t = w) := Or.inr ⟨t, ht, rfl, rfl, hst, hon⟩
          have k0 : ¬ kI σ 10 k = 0 := by rw [c]; decide
          have t0 : ¬ kI σ 10 t = 0 := by rw [hst]; decide
          rw [kk_o_some, if_pos c, if_pos on0, kk_b_eq (xf_ahead σ k t)] at h1
          obtain ⟨a, ha, a1, a2⟩ := T.2.2.2.2.2.1 c
          obtain ⟨d, hd, d1, d2⟩ := (h.2.2.2.2.2 t ht).2.2.2.2.2.1 hst
          rw [if_neg (nI_pos (by omega)), nI_clamp (n := t) (by omega), ← he k hk k0, ← he t ht t0, a2, d2] at h2
          rw [a1, d1] at h1
          by_cases e1 : kI σ 12 t < kI σ 12 k
          · rw [if_pos (Or.inl e1), if_neg (by decide)] at h1
            rw [if_pos e1] at h2
            exact ih2 _ _ nk o σ2 r μ2 h1 h2
          · rw [if_neg e1] at h2
            by_cases e2 : kI σ 12 k = kI σ 12 t
            · rw [if_pos e2] at h2
              by_cases e3 : a < d
              · rw [if_pos (Or.inr ⟨e2, (pk_lLT (by omega) (by omega)).mpr e3⟩), if_neg (by decide)] at h1
                rw [if_neg (nI_ge e3 (by omega))] at h2
                exact ih2 _ _ nk o σ2 r μ2 h1 h2
              · rw [if_neg (show ¬ (kI σ 12 t < kI σ 12 k ∨ (kI σ 12 k = kI σ 12 t ∧ lN a < lN d)) from fun z => z.elim e1 (fun y => e3 ((pk_lLT (by omega) (by omega)).mp y.2))), if_pos rfl] at h1
                rw [if_pos (nI_le (by omega) (by omega))] at h2
                exact ih2 _ _ bt o σ2 r μ2 h1 h2
            · rw [if_neg e2] at h2
              rw [if_neg (show ¬ (kI σ 12 t < kI σ 12 k ∨ (kI σ 12 k = kI σ 12 t ∧ lN a < lN d)) from fun z => z.elim e1 (fun y => e2 y.1)), if_pos rfl] at h1
              exact ih2 _ _ bt o σ2 r μ2 h1 h2
      · rw [if_neg on0] at h2
        refine ih2 best b hb o σ2 r μ2 ?_ h2
        cases best with
        | none => rw [kk_o_none, if_pos c, if_neg on0] at h1; exact h1
        | some t => rw [kk_o_some, if_pos c, if_neg on0] at h1; exact h1
    · rw [if_neg c] at h2
      refine ih2 best b hb o σ2 r μ2 ?_ h2
      cases best with
      | none => rw [kk_o_none, if_neg c] at h1; exact h1
      | some t => rw [kk_o_some, if_neg c] at h1; exact h1
theorem kr_run {N B x : Nat} {σ σ2 : kx_S} {μ μ2 : km_S} {o : Option Nat} {r : Int32} (hN : N < 2 ^ 30) (h : kr N B x σ μ) (h1 : xf_runner σ = (o, σ2)) (h2 : mf_running μ = (r, μ2)) : kr N B x σ2 μ2 ∧ kr_e σ2 μ2 ∧ kr_a o r (fun t => kI σ2 10 t = 1) := by
  obtain ⟨a, b⟩ := kr_weigh h
  rw [xf_runner, xf_foremost, kk_v] at h1
  rw [mf_running, kk_v] at h2
  obtain ⟨o3, σ3, e3⟩ : ∃ o3 σ3, xf_foremost_L20 1 0 8 0 none (xf_work σ) = (o3, σ3) := ⟨_, _, rfl⟩
  rw [kk_b_eq e3] at h1
  obtain ⟨p1, p2, p3⟩ := kr_run_L hN 8 0 none (-1) _ _ rfl a b (Or.inl ⟨rfl, rfl⟩) o3 σ3 r μ2 e3 h2
  subst p1; subst p2
  cases o3 with
  | none => rw [kk_o_none] at h1; cases h1; exact ⟨a, b, p3⟩
  | some t => rw [kk_o_some] at h1; cases h1; exact ⟨a, b, p3⟩
theorem kr_fw {N B x : Nat} {σ σ2 : kx_S} {μ μ2 : km_S} {o : Option Nat} {r w : Int32} (hN : N < 2 ^ 30) (h : kr N B x σ μ) (h1 : xf_firstWaiter σ w = (o, σ2)) (h2 : mf_firstWaiter μ w = (r, μ2)) : kr N B x σ2 μ2 ∧ kr_a o r (fun t => kI σ2 10 t = 2 ∧ kI σ2 16 t = w) := by
  obtain ⟨a, b⟩ := kr_weigh h
  rw [xf_firstWaiter, xf_foremost, kk_v] at h1
  rw [mf_firstWaiter, kk_v] at h2
  obtain ⟨o3, σ3, e3⟩ : ∃ o3 σ3, xf_foremost_L20 2 w 8 0 none (xf_work σ) = (o3, σ3) := ⟨_, _, rfl⟩
  rw [kk_b_eq e3] at h1
  obtain ⟨p1, p2, p3⟩ := kr_fw_L hN w 8 0 none (-1) _ _ rfl a b (Or.inl ⟨rfl, rfl⟩) o3 σ3 r μ2 e3 h2
  subst p1; subst p2
  cases o3 with
  | none => rw [kk_o_none] at h1; cases h1; exact ⟨a, p3⟩
  | some t => rw [kk_o_some] at h1; cases h1; exact ⟨a, p3⟩
