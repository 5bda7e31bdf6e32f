/-! exit, tell, tick -/
theorem kx_ext {σ σ' : kx_S} (h : ∀ f i, kI σ f i = kI σ' f i) (hj : ∀ f i, kJ σ f i = kJ σ' f i) : σ = σ' := Prod.ext (funext fun f => funext fun i => h f i) (funext fun f => funext fun i => hj f i)
theorem sI_comm {σ : kx_S} {f g i j : Nat} {v w : Int32} (h : f ≠ g) : sI (sI σ f i v) g j w = sI (sI σ g j w) f i v := by
  refine kx_ext (fun a b => ?_) (fun _ _ => rfl)
  rw [kI_sI, kI_sI, kI_sI, kI_sI]
  by_cases c : a = g ∧ b = j
  · rw [if_pos c, if_neg (fun z => h (z.1.symm.trans c.1)), if_pos c]
  · rw [if_neg c, if_neg c]
theorem xf_L13_co {f i : Nat} {v : Int32} (hf : f ≠ 3 ∧ f ≠ 12 ∧ f ≠ 16) : ∀ (n k : Nat) (r : Int32) (σ : kx_S), xf_inheritOnce_L13 n k r (sI σ f i v) = ((xf_inheritOnce_L13 n k r σ).1, sI (xf_inheritOnce_L13 n k r σ).2 f i v) := by
  intro n
  induction n with
  | zero => intro k r σ; rfl
  | succ n ih =>
    intro k r σ
    have hv : kx_hv (sI σ f i v) k = kx_hv σ k := by
      have e : ∀ g a, f ≠ g → kI (sI σ f i v) g a = kI σ g a := fun g a hg => by rw [kI_sI, if_neg (fun z => hg z.1.symm)]
      unfold kx_hv
      rw [e 16 k hf.2.2, e 3 1 hf.1, e 3 2 hf.1]
    have e12 : ∀ a, kI (sI σ f i v) 12 a = kI σ 12 a := fun a => by rw [kI_sI, if_neg (fun z => hf.2.1 z.1.symm)]
    rw [xf_inheritOnce_L13, xf_inheritOnce_L13, kk_b_eq (xf_heir _ k), kk_b_eq (xf_heir σ k), hv, e12, e12]
    by_cases c : kx_hv σ k = -1
    · rw [if_pos c, if_pos c]; exact ih _ _ _
    · rw [if_neg c, if_neg c]
      by_cases d : kI σ 12 k ≤ kI σ 12 (kx_hv σ k).toNatClampNeg
      · rw [if_pos d, if_pos d]; exact ih _ _ _
      · rw [if_neg d, if_neg d, sI_comm hf.2.1]; exact ih _ _ _
theorem xf_L69_co {f i : Nat} {v : Int32} (hf : f ≠ 3 ∧ f ≠ 12 ∧ f ≠ 16) : ∀ (n k : Nat) (r : Int32) (σ : kx_S), xf_work_L69 n k r (sI σ f i v) = sI (xf_work_L69 n k r σ) f i v := by
  intro n
  induction n with
  | zero => intro k r σ; rfl
  | succ n ih =>
    intro k r σ
    rw [xf_work_L69, xf_work_L69]
    by_cases c : r = 0
    · rw [if_pos c, if_pos c]
    · rw [if_neg c, if_neg c, xf_inheritOnce, xf_inheritOnce, xf_L13_co hf, kk_b, kk_b]
      exact ih _ _ _
theorem xf_L10_co {f i : Nat} {v : Int32} (hf : f ≠ 1 ∧ f ≠ 11 ∧ f ≠ 3 ∧ f ≠ 12 ∧ f ≠ 16) : ∀ (n k : Nat) (σ : kx_S), xf_work_L10 n k (sI σ f i v) = sI (xf_work_L10 n k σ) f i v := by
  intro n
  induction n with
  | zero => intro k σ; exact xf_L69_co hf.2.2 _ _ _ _
  | succ n ih =>
    intro k σ
    have e : ∀ g a, f ≠ g → kI (sI σ f i v) g a = kI σ g a := fun g a hg => by rw [kI_sI, if_neg (fun z => hg z.1.symm)]
    rw [xf_work_L10, xf_work_L10, e 3 3 hf.2.2.1, e 11 k hf.2.1, e 1 0 hf.1]
    by_cases c : kI σ 3 3 = nI k
    · rw [if_pos c, if_pos c, sI_comm hf.2.2.2.1]; exact ih _ _
    · rw [if_neg c, if_neg c, sI_comm hf.2.2.2.1]; exact ih _ _
theorem xf_work_co {σ : kx_S} {f i : Nat} {v : Int32} (hf : f ≠ 1 ∧ f ≠ 11 ∧ f ≠ 3 ∧ f ≠ 12 ∧ f ≠ 16) : xf_work (sI σ f i v) = sI (xf_work σ) f i v := xf_L10_co hf 8 0 σ
/-- who waits first doesn't hang on a thread that isn't blocked -/
theorem xf_L20_co {w : Int32} {σ σ' : kx_S} (h10 : ∀ k, kI σ' 10 k = 2 ↔ kI σ 10 k = 2) (h16 : ∀ k, kI σ' 16 k = kI σ 16 k) (h12 : ∀ k, kI σ' 12 k = kI σ 12 k) (hj : ∀ k, kJ σ' 0 k = kJ σ 0 k) : ∀ (n k : Nat) (best : Option Nat), (xf_foremost_L20 2 w n k best σ').1 = (xf_foremost_L20 2 w n k best σ).1 := by
  intro n
  induction n with
  | zero => intro k best; rw [xf_foremost_L20, xf_foremost_L20]; cases best <;> rfl
  | succ n ih =>
    intro k best
    rw [xf_foremost_L20, xf_foremost_L20]
    cases best with
    | none =>
      rw [kk_o_none, kk_o_none, h16]
      by_cases c : kI σ 10 k = 2
      · rw [if_pos c, if_pos ((h10 k).mpr c)]
        by_cases d : kI σ 16 k = w
        · rw [if_pos d, if_pos d]; exact ih _ _
        · rw [if_neg d, if_neg d]; exact ih _ _
      · rw [if_neg c, if_neg (fun z => c ((h10 k).mp z))]; exact ih _ _
    | some t =>
      rw [kk_o_some, kk_o_some, h16, kk_b_eq (xf_ahead σ' k t), kk_b_eq (xf_ahead σ k t), h12, h12, hj, hj]
      by_cases c : kI σ 10 k = 2
      · rw [if_pos c, if_pos ((h10 k).mpr c)]
        by_cases d : kI σ 16 k = w
        · rw [if_pos d, if_pos d]
          by_cases g : (if kI σ 12 t < kI σ 12 k ∨ (kI σ 12 k = kI σ 12 t ∧ kJ σ 0 k < kJ σ 0 t) then (1 : Int32) else 0) = 0
          · rw [if_pos g, if_pos g]; exact ih _ _
          · rw [if_neg g, if_neg g]; exact ih _ _
        · rw [if_neg d, if_neg d]; exact ih _ _
      · rw [if_neg c, if_neg (fun z => c ((h10 k).mp z))]; exact ih _ _
theorem xf_fw_co {σ s3 : kx_S} {t : Nat} {v w : Int32} {o : Option Nat} (hs : kI σ 10 t = 1) (h : xf_firstWaiter σ w = (o, s3)) : xf_firstWaiter (sI (sI σ 15 t v) 10 t 3) w = (o, sI (sI s3 15 t v) 10 t 3) := by
  have e3 := xf_fw_st h
  have ew : xf_work (sI (sI σ 15 t v) 10 t 3) = sI (sI s3 15 t v) 10 t 3 := by
    rw [xf_work_co (by decide), xf_work_co (by decide), e3]
  have h1 : (xf_firstWaiter (sI (sI σ 15 t v) 10 t 3) w).1 = o := by
    rw [xf_fw_eq, ew]
    rw [xf_fw_eq, ← e3] at h
    have h2 : (xf_foremost_L20 2 w 8 0 none s3).1 = o := by rw [h]
    rw [← h2]
    have t10 : kI s3 10 t = 1 := by rw [e3, (xf_work_fr σ 10 t).1 (by decide)]; exact hs
    refine xf_L20_co (σ := s3) (σ' := sI (sI s3 15 t v) 10 t 3) (fun k => ?_) (fun k => ?_) (fun k => ?_) (fun k => rfl) 8 0 none
    · rw [kI_sI]
      by_cases e : k = t
      · subst e
        rw [if_pos ⟨rfl, rfl⟩, t10]
        exact ⟨fun z => absurd z (by decide), fun z => absurd z (by decide)⟩
      · rw [if_neg (fun z => e z.2), kI_sI, if_neg (by omega)]
    · rw [kI_sI, if_neg (by omega), kI_sI, if_neg (by omega)]
    · rw [kI_sI, if_neg (by omega), kI_sI, if_neg (by omega)]
  have h2 : (xf_firstWaiter (sI (sI σ 15 t v) 10 t 3) w).2 = sI (sI s3 15 t v) 10 t 3 := by
    rw [xf_fw_st (o := (xf_firstWaiter (sI (sI σ 15 t v) 10 t 3) w).1) (σ2 := (xf_firstWaiter (sI (sI σ 15 t v) 10 t 3) w).2) rfl, ew]
  exact Prod.ext h1 h2
theorem kr_owns_L {N B t : Nat} {σ : kx_S} {μ : km_S} (value : Int32) (h : kr N B 2 σ μ) : ∀ n k, n + k = 4 → ((xf_ownsAny_L11 t n k σ = (0, σ) ∧ mf_exit_L13 value (nI t) n k μ = mf_exit_L13 value (nI t) 0 4 μ ∧ ∀ m, k ≤ m → m < 4 → ¬ kI σ 3 m = nI t) ∨ (xf_ownsAny_L11 t n k σ = (1, σ) ∧ mf_exit_L13 value (nI t) n k μ = (-1, μ))) := by
  intro n
  induction n with
  | zero => intro k hnk; exact Or.inl ⟨rfl, by simp only [mf_exit_L13], fun m h1 h2 => by omega⟩
  | succ n ih =>
    intro k hnk
    rw [xf_ownsAny_L11, mf_exit_L13.eq_2, ← (h.2.1 k (by omega)).1]
    by_cases c : kI σ 3 k = nI t
    · rw [if_pos c, if_pos c]; exact Or.inr ⟨rfl, rfl⟩
    · rw [if_neg c, if_neg c]
      rcases ih (k + 1) (by omega) with ⟨a, b, d⟩ | a
      · refine Or.inl ⟨a, b, fun m h1 h2 => ?_⟩
        by_cases e : m = k
        · subst e; exact c
        · exact d m (by omega) h2
      · exact Or.inr a
theorem kr_freeres {N B : Nat} {σ : kx_S} {μ : km_S} {t : Nat} (v : Int32) (h : kr N B 2 σ μ) (ht : t < 8) (hs : kI σ 10 t = 0) : kr N B 2 (sI σ 15 t v) μ := by
  obtain ⟨⟨a1, a2, a3, a4, a5, a6, a7⟩, b, c, d, e, f, g⟩ := h.2.2.2.2.2 t ht
  refine kr_th h ht (fun f i h1 => by rw [kI_sI, if_neg (by omega)]) (fun _ _ => rfl) (fun f i h1 => rfl) (by rw [kI_sI, if_neg (by omega)]) (by rw [kI_sI, if_neg (by omega)]) ⟨⟨?_, ?_, ?_, ?_, ⟨?_, ?_⟩, ?_, ?_⟩, ?_, ?_, ?_, ?_, ?_, ?_⟩
  · simpa [kI_sI, mI_sM] using a1
  · simpa [kI_sI, mI_sM] using a2
  · simpa [kI_sI, mI_sM] using a3
  · simpa [kI_sI, mI_sM] using a4
  · simpa [kI_sI, mI_sM] using a5.1
  · simpa [kI_sI, mI_sM] using a5.2
  · simpa [kI_sI, mI_sM] using a6
  · simpa [kI_sI, mI_sM] using a7
  · intro z; rw [kI_sI, if_neg (by omega), hs] at z; exact absurd rfl z
  · simpa [kI_sI, kJ_sI, mI_sM] using c
  · simpa [kI_sI, mI_sM] using d
  · simpa [kI_sI, kJ_sI, mI_sM] using e
  · simpa [kI_sI, kJ_sI, mI_sM] using f
  · simpa [kI_sI, mI_sM] using g
theorem kr_exit {N B : Nat} {σ : kx_S} {μ : km_S} (value : Int32) (hN : N < 2 ^ 30) (h : kr N B 2 σ μ) : kr_ri (N + 1) B (xf_exit σ value) (mf_exit μ value) := by
  obtain ⟨o1, s1, e1⟩ : ∃ o1 s1, xf_runner σ = (o1, s1) := ⟨_, _, rfl⟩
  obtain ⟨r1, u1, e2⟩ : ∃ r1 u1, mf_running μ = (r1, u1) := ⟨_, _, rfl⟩
  obtain ⟨h1, -, ha⟩ := kr_run hN h e1 e2
  have no : kr_ri (N + 1) B ((-1 : Int32), s1) ((-1 : Int32), u1) := ⟨rfl, kr_mono (Nat.le_succ N) h1⟩
  rw [xf_exit, mf_exit, kk_b_eq e1, kk_b_eq e2]
  rcases ha with ⟨rfl, rfl⟩ | ⟨t, ht, rfl, rfl, hs⟩
  · rw [kk_o_none, if_neg (show ¬ (0 : Int32) ≤ -1 by decide)]; exact no
  · rw [kk_o_some, if_pos (nI_pos' (by omega)), xf_ownsAny]
    rcases kr_owns_L (t := t) value h1 4 0 rfl with ⟨a, b, d⟩ | ⟨a, b⟩
    · rw [kk_b_eq a, if_pos rfl, b, mf_exit_L13, nI_clamp (n := t) (by omega)]
      have ho : ∀ m, m < 4 → ¬ kI s1 3 m = nI t := fun m hm => d m (Nat.zero_le m) hm
      have h2 := kr_res value h1 ht (kr_on10 h1 ht hs)
      have f1 : kI (sI s1 15 t value) 10 t = 1 := by rw [kI_sI, if_neg (by omega)]; exact hs
      have h3 : kr N B 2 (sI (sI s1 15 t value) 10 t 3) (sM (sM u1 11 t value) 4 t 3) := kr_end (v := 3) h2 ht (by rw [f1]; decide) (by rw [f1]; decide) (by decide) ho
      obtain ⟨o3, s3, e3⟩ : ∃ o3 s3, xf_firstWaiter s1 (70 + nI t) = (o3, s3) := ⟨_, _, rfl⟩
      obtain ⟨r3, u3, e4⟩ : ∃ r3 u3, mf_firstWaiter (sM (sM u1 11 t value) 4 t 3) (70 + nI t) = (r3, u3) := ⟨_, _, rfl⟩
      rw [kk_b_eq e3, kk_b_eq e4]
      obtain ⟨h4, hb⟩ := kr_fw hN h3 (xf_fw_co hs e3) e4
      rcases hb with ⟨rfl, rfl⟩ | ⟨t3, ht3, rfl, rfl, hs3, hon3⟩
      · rw [kk_o_none, if_pos (show (-1 : Int32) < 0 by decide)]
        exact ⟨rfl, kr_mono (Nat.le_succ N) h4⟩
      · rw [kk_o_some, if_neg (nI_pos (by omega)), kk_v, kk_v, nI_clamp (n := t3) (by omega)]
        have g3 : kI (sI (sI s3 15 t value) 10 t 3) 10 t = 3 := by rw [kI_sI, if_pos ⟨rfl, rfl⟩]
        have hne : ¬ t3 = t := fun z => by subst z; rw [g3] at hs3; exact absurd hs3 (by decide)
        have h5 := kr_end (v := 0) h4 ht (by rw [g3]; decide) (by rw [g3]; decide) (by decide) (kr_noown h4 ht (by rw [g3]; decide) (by rw [g3]; decide))
        have h6 := kr_ready (res := value) h5 ht3 (by rw [kI_sI, if_neg (by omega), hs3]; decide)
        have g0 : kI (xf_makeReady (sI (sI (sI s3 15 t value) 10 t 3) 10 t 0) t3 value) 10 t = 0 := by
          rw [xready_I, if_neg (by omega), if_neg (by omega), if_neg (by omega), if_neg (by omega), kI_sI, if_pos ⟨rfl, rfl⟩]
        have h7 := kr_freeres (kI s3 15 t) h6 ht g0
        refine ⟨rfl, kr_fr h7 (fun f i _ => ?_) (fun f i => ?_) (fun _ _ _ => rfl)⟩
        · simp only [kI_sI, xready_I]
          by_cases q1 : f = 15 ∧ i = t
          · rw [if_neg (by omega), if_neg (by omega), if_neg (by omega), if_neg (by omega), if_neg (by omega), if_pos q1, q1.1, q1.2]
          · rw [if_neg q1]
            by_cases q2 : f = 10 ∧ i = t
            · rw [if_pos q2, if_neg (by omega), if_neg (by omega), if_neg (by omega), if_neg (by omega), if_pos q2]
            · rw [if_neg q2, if_neg q2, if_neg q2, if_neg q1]
        · simp only [kJ_sI, xready_J]
    · rw [kk_b_eq a, if_neg (by decide), b]; exact no
theorem kr_tell {N B : Nat} {σ : kx_S} {μ : km_S} (th what : Int32) (h : kr N B 2 σ μ) : kr_rl N B (xf_tell σ th what) (mf_tell μ th what) := by
  have no : kr_rl N B ((1000000000000 : Int64), σ) ((1000000000000 : Int64), μ) := ⟨rfl, h⟩
  have hm : kr N B 2 σ (mf_weigh μ) := kr_fr h (fun _ _ _ => rfl) (fun _ _ => rfl) (fun f i hf => mf_weigh_fr μ f i hf)
  rw [xf_tell, mf_tell]
  by_cases c : mf_out th 8 = 0
  · rw [if_neg (fun z => (kk_bo th 8).mp z c), if_pos c]
    obtain ⟨t, ht, rfl⟩ := vp_in_of (km_in (n := 8) (by decide) c) (by decide)
    have T := h.2.2.2.2.2 t ht
    have TM := hm.2.2.2.2.2 t ht
    rw [nI_clamp (n := t) (by omega), ← T.1.1]
    by_cases w0 : what = 0
    · subst w0
      rw [if_pos rfl, if_neg (show ¬ (0 : Int32) < 0 by decide), if_neg (show ¬ (5 : Int32) < 0 by decide)]
      by_cases s0 : kI σ 10 t = 0
      · rw [if_pos s0, if_pos (show (0 : Int32) ≤ 0 by decide), kk_v, if_pos rfl]; exact ⟨congrArg Int32.toInt64 TM.1.1, hm⟩
      · rw [if_neg s0, kk_v, if_pos rfl]; exact ⟨congrArg Int32.toInt64 TM.1.1, hm⟩
    · rw [if_neg w0]
      by_cases w1 : what < 0
      · rw [if_pos w1]
        have q : ∀ k : Int32, ¬ k < 0 → ¬ what = k := fun k hk z => hk (by rw [← z]; exact w1)
        rw [if_neg (q 1 (by decide)), if_neg (q 2 (by decide)), if_neg (q 3 (by decide)), if_neg (q 4 (by decide)), if_neg (q 5 (by decide))]
        by_cases s0 : kI σ 10 t = 0
        · rw [if_pos s0]; exact no
        · rw [if_neg s0]; exact no
      · rw [if_neg w1]
        by_cases w2 : 5 < what
        · rw [if_pos w2]
          have q : ∀ k : Int32, ¬ 5 < k → ¬ what = k := fun k hk z => hk (by rw [← z]; exact w2)
          rw [if_neg (q 1 (by decide)), if_neg (q 2 (by decide)), if_neg (q 3 (by decide)), if_neg (q 4 (by decide)), if_neg (q 5 (by decide))]
          by_cases s0 : kI σ 10 t = 0
          · rw [if_pos s0]; exact no
          · rw [if_neg s0]; exact no
        · rw [if_neg w2]
          obtain ⟨k, hk, rfl⟩ := nI_of2 (M := 5) (n := 5) (x := what) (by decide) w1 (Int32.not_lt.mp w2)
          have hk0 : 0 < k := by
            rcases Nat.eq_zero_or_pos k with q | q
            · subst q; exact absurd rfl w0
            · exact q
          by_cases s0 : kI σ 10 t = 0
          · rw [if_pos s0, if_pos s0, if_neg (nI_nle hk0 (by omega))]; exact no
          · rw [if_neg s0, if_neg s0, kk_v, kk_v, if_neg w0]
            rcases (show k = 1 ∨ k = 2 ∨ k = 3 ∨ k = 4 ∨ k = 5 by omega) with rfl | rfl | rfl | rfl | rfl
            · rw [if_pos (show nI 1 = 1 from rfl), if_pos (show nI 1 = 1 from rfl)]
              exact ⟨congrArg Int32.toInt64 (TM.2.1 s0).1, hm⟩
            · rw [if_neg (show ¬ nI 2 = 1 by decide), if_neg (show ¬ nI 2 = 1 by decide), if_pos (show nI 2 = 2 from rfl), if_pos (show nI 2 = 2 from rfl)]
              obtain ⟨a, b⟩ := kr_weigh h
              exact ⟨congrArg Int32.toInt64 (b t ht (by rw [(xf_work_fr σ 10 t).1 (by decide)]; exact s0)), a⟩
            · rw [if_neg (show ¬ nI 3 = 1 by decide), if_neg (show ¬ nI 3 = 1 by decide), if_neg (show ¬ nI 3 = 2 by decide), if_neg (show ¬ nI 3 = 2 by decide), if_pos (show nI 3 = 3 from rfl), if_pos (show nI 3 = 3 from rfl)]
              exact ⟨congrArg Int32.toInt64 (TM.2.1 s0).2, hm⟩
            · rw [if_neg (show ¬ nI 4 = 1 by decide), if_neg (show ¬ nI 4 = 1 by decide), if_neg (show ¬ nI 4 = 2 by decide), if_neg (show ¬ nI 4 = 2 by decide), if_neg (show ¬ nI 4 = 3 by decide), if_neg (show ¬ nI 4 = 3 by decide), if_pos (show nI 4 = 4 from rfl), if_pos (show nI 4 = 4 from rfl), ← TM.1.1]
              by_cases s2 : kI σ 10 t = 2
              · rw [if_pos s2]; exact ⟨congrArg Int32.toInt64 TM.1.2.1, hm⟩
              · rw [if_neg s2]
                refine ⟨?_, hm⟩
                show (kI σ 16 t).toInt64 = 0
                rw [T.2.2.2.1 s2]; decide
            · rw [if_neg (show ¬ nI 5 = 1 by decide), if_neg (show ¬ nI 5 = 1 by decide), if_neg (show ¬ nI 5 = 2 by decide), if_neg (show ¬ nI 5 = 2 by decide), if_neg (show ¬ nI 5 = 3 by decide), if_neg (show ¬ nI 5 = 3 by decide), if_neg (show ¬ nI 5 = 4 by decide), if_neg (show ¬ nI 5 = 4 by decide), if_pos (show nI 5 = 5 from rfl), ← TM.1.1]
              rcases TM.2.2.1 with ⟨d1, d2⟩ | ⟨d, d1, d2, d3, d4, d5⟩
              · rw [d1, d2]
                by_cases s2 : kI σ 10 t = 2
                · rw [if_pos s2, if_pos (show (0 : Int32) ≤ 0 by decide)]; exact ⟨rfl, hm⟩
                · rw [if_neg s2]; exact ⟨rfl, hm⟩
              · rw [if_pos d5, d4, if_neg (nI_nle d1 (by omega)), d3]
                exact ⟨(nI_l (by omega)).symm, hm⟩
  · rw [if_pos ((kk_bo th 8).mpr c), if_neg c]; exact no
theorem kr_time {N B : Nat} {σ : kx_S} {μ : km_S} (h : kr N B 2 σ μ) : kr N (B + 1) 2 (sI σ 2 0 (kI σ 2 0 + 1)) (sM μ 2 0 (mI μ 2 0 + 1)) := by
  obtain ⟨⟨g1, g2, ⟨T, t1, t2, t3⟩, n, n1, n2, n3⟩, o, v, q, b, th⟩ := h
  refine ⟨⟨?_, ?_, ⟨T + 1, by omega, ?_, ?_⟩, n, n1, n2, ?_⟩, ?_, ?_, ?_, ?_, fun t ht => kr_t_fr (Nat.le_refl N) (fun f h1 _ => by rw [kI_sI, if_neg (by omega)]) (fun _ _ => rfl) (fun f h1 h2 => by rw [mI_sM, if_neg (by omega)]) (th t ht)⟩
  · simpa [kI_sI, mI_sM] using g1
  · simpa [kI_sI, mI_sM] using g2
  · simp [kI_sI, t2, nI_1]
  · simp [mI_sM, t3, nI_1]
  · simpa [mI_sM] using n3
  · intro m hm
    simpa [kI_sI, mI_sM] using o m hm
  · intro s hs
    simpa [kI_sI, mI_sM] using v s hs
  · intro q2 hq2
    obtain ⟨j, j1, j2, j3, j4⟩ := q q2 hq2
    refine ⟨j, j1, by simpa [kI_sI] using j2, by simpa [mI_sM] using j3, fun i hi => ?_⟩
    rw [kI_sI, if_neg (by omega), kI_sI, if_neg (by omega), mI_sM, if_neg (by omega), mI_sM, if_neg (by omega)]
    exact j4 i hi
  · intro t q2 ht hq hqx
    simpa [kI_sI] using b t q2 ht hq hqx
theorem kr_used {N B x : Nat} {σ : kx_S} {μ : km_S} {t : Nat} (v : Int32) (h : kr N B x σ μ) (ht : t < 8) : kr N B x (sI σ 14 t v) (sM μ 7 t v) := by
  obtain ⟨⟨a1, a2, a3, a4, a5, a6, a7⟩, b, c, d, e, f, g⟩ := h.2.2.2.2.2 t ht
  refine kr_th h ht (fun f i h1 => by rw [kI_sI, if_neg (by omega)]) (fun _ _ => rfl) (fun f i h1 => by rw [mI_sM, if_neg (by omega)]) (by rw [kI_sI, if_neg (by omega)]) (by rw [kI_sI, if_neg (by omega)]) ⟨⟨?_, ?_, ?_, ?_, ⟨?_, ?_⟩, ?_, ?_⟩, ?_, ?_, ?_, ?_, ?_, ?_⟩
  · simpa [kI_sI, mI_sM] using a1
  · simpa [kI_sI, mI_sM] using a2
  · simpa [kI_sI, mI_sM] using a3
  · simp [kI_sI, mI_sM]
  · simpa [kI_sI, mI_sM] using a5.1
  · simpa [kI_sI, mI_sM] using a5.2
  · simpa [kI_sI, mI_sM] using a6
  · simpa [kI_sI, mI_sM] using a7
  · simpa [kI_sI, mI_sM] using b
  · simpa [kI_sI, kJ_sI, mI_sM] using c
  · simpa [kI_sI, mI_sM] using d
  · simpa [kI_sI, kJ_sI, mI_sM] using e
  · simpa [kI_sI, kJ_sI, mI_sM] using f
  · simpa [kI_sI, mI_sM] using g
theorem kk_b20 {x : Int32} : xf_isBelow (x - 20) 2 = 0 ↔ ¬ (x = 20 ∨ x = 21) := by
  rw [kk_bo]
  constructor
  · intro h z
    apply h
    rcases z with rfl | rfl <;> decide
  · intro h z
    obtain ⟨j, hj, e⟩ := vp_in_of (km_in (n := 2) (by decide) z) (by decide)
    apply h
    have e2 : x = nI j + 20 := by rw [← e, Int32.sub_add_cancel]
    rcases (show j = 0 ∨ j = 1 by omega) with rfl | rfl
    · exact Or.inl (e2.trans (by decide))
    · exact Or.inr (e2.trans (by decide))
theorem kk_n20 : (∀ m, m < 4 → ¬ (20 : Int32) = 10 + nI m) ∧ ∀ m, m < 4 → ¬ (21 : Int32) = 10 + nI m := by decide +kernel
theorem kr_dl {N B : Nat} {σ : kx_S} {μ : km_S} {t : Nat} (h : kr N B 2 σ μ) (ht : t < 8) (hs : kI σ 10 t = 2) : kr (N + 1) B 2 (xf_endWait σ t) (mf_deadlineComes μ (nI t)) := by
  have T := h.2.2.2.2.2 t ht
  have n0 : ¬ kI σ 10 t = 0 := by rw [hs]; decide
  rw [xf_endWait, mf_deadlineComes, nI_clamp (n := t) (by omega), ← T.1.2.1]
  by_cases c20 : kI σ 16 t = 20
  · rw [if_pos c20, if_neg (by rw [c20]; decide), if_neg (fun z => kk_b20.mp z (Or.inl c20)), kk_v, kk_v]
    exact kr_retake 2 h ht hs (fun m hm z => kk_n20.1 m hm (by rw [← c20]; exact z))
  · rw [if_neg c20]
    by_cases c21 : kI σ 16 t = 21
    · rw [if_pos c21, if_neg (by rw [c21]; decide), if_neg (fun z => kk_b20.mp z (Or.inr c21)), kk_v, kk_v]
      exact kr_retake 2 h ht hs (fun m hm z => kk_n20.2 m hm (by rw [← c21]; exact z))
    · rw [if_neg c21]
      by_cases c60 : kI σ 16 t = 60
      · rw [if_pos c60, if_pos c60, kk_v, kk_v]; exact kr_ready h ht n0
      · rw [if_neg c60, if_neg c60, if_pos (kk_b20.mpr (fun z => z.elim c20 c21)), kk_v, kk_v]; exact kr_ready h ht n0
theorem kr_tick_in {B : Nat} (n1 : Int32) (hB : B < 2 ^ 29) : ∀ (n k N : Nat) (σ : kx_S) (μ : km_S), n + k = 8 → kr N B 2 σ μ → (∃ T, 0 < T ∧ T ≤ B ∧ kI σ 2 0 = nI T) → kr (N + n) B 2 (xf_tickOnce_L35 n k σ) (mf_tick_L83 n1 n k μ) := by
  intro n
  induction n with
  | zero => intro k N σ μ hnk h hT; exact h
  | succ n ih =>
    intro k N σ μ hnk h hT
    have hk : k < 8 := by omega
    have Tk := h.2.2.2.2.2 k hk
    obtain ⟨T, T0, T1, T2⟩ := hT
    have mT : mI μ 2 0 = nI T := by
      obtain ⟨T', _, a, b⟩ := h.1.2.2.1
      rw [b, ← a, T2]
    have hend : ∀ s : kx_S, s = xf_endWait σ k → ∃ T, 0 < T ∧ T ≤ B ∧ kI s 2 0 = nI T := by
      intro s e
      subst e
      refine ⟨T, T0, T1, ?_⟩
      rw [← T2, xf_endWait]
      have r : ∀ (r : Int32) (s : kx_S), kI (xf_makeReady s k r) 2 0 = kI s 2 0 := fun r s => by rw [xready_I, if_neg (by omega), if_neg (by omega), if_neg (by omega), if_neg (by omega)]
      split
      · rw [kk_v, r]
      · split
        · rw [kk_v, r]
        · rw [kk_v, xf_endAwait, kk_v, xf_take]
          split
          · rw [kk_v, xf_makeOwner]
            split
            · rw [kI_sI, if_neg (by omega), kI_sI, if_neg (by omega), kI_sI, if_neg (by omega), kI_sI, if_neg (by omega)]
            · rw [kk_v, r, kI_sI, if_neg (by omega), kI_sI, if_neg (by omega), kI_sI, if_neg (by omega)]
          · rw [kk_v, xblock_I, if_neg (by omega), if_neg (by omega), kI_sI, if_neg (by omega), kI_sI, if_neg (by omega)]
    have stay : kr (N + (n + 1)) B 2 (xf_tickOnce_L35 n (k + 1) σ) (mf_tick_L83 n1 n (k + 1) μ) := kr_mono (by omega) (ih (k + 1) N σ μ (by omega) h ⟨T, T0, T1, T2⟩)
    rw [xf_tickOnce_L35, mf_tick_L83, ← Tk.1.1, mT, T2]
    rcases Tk.2.2.1 with ⟨d1, d2⟩ | ⟨d, d1, d2, d3, d4, d5⟩
    · rw [d1, d2, nI_l (by omega), if_neg (fun z => absurd ((lg_cmp_eq _ _).mp z) (fun q => by
        have := (pk_lEQ (a := 1000000000000) (b := T) (by decide) (by omega)).mp q
        omega)), if_neg (show ¬ (0 : Int32) = nI T from fun z => nI_ne0 T0 (by omega) z.symm)]
      by_cases c : kI σ 10 k = 2
      · rw [if_pos c]; exact stay
      · rw [if_neg c]; exact stay
    · rw [d3, d4, nI_l (by omega), if_pos d5]
      by_cases c : d = T
      · subst c
        rw [if_pos ((lg_cmp_eq _ _).mpr rfl), if_pos rfl, kk_v, kk_v]
        have h2 := kr_dl h hk d5
        have h3 := ih (k + 1) (N + 1) _ _ (by omega) h2 (hend _ rfl)
        rw [show N + (n + 1) = N + 1 + n by omega]
        exact h3
      · rw [if_neg (fun z => c ((pk_lEQ (by omega) (by omega)).mp ((lg_cmp_eq _ _).mp z))), if_neg (fun z => c ((nI_eq (by omega) (by omega)).mp z))]
        exact stay
theorem kr_tick_L (n1 : Int32) : ∀ (n k N B : Nat) (σ : kx_S) (μ : km_S), N + 9 * n < 2 ^ 30 → B + n < 2 ^ 29 → kr N B 2 σ μ → kr_ri (N + 9 * n) (B + n) (xf_tick_L15 n1 n k σ) (mf_tick_L15 n1 n k μ) := by
  intro n
  induction n with
  | zero =>
    intro k N B σ μ hN hB h
    rw [xf_tick_L15, mf_tick_L15, kk_b, kk_b]
    exact kr_running (by omega) h
  | succ n ih =>
    intro k N B σ μ hN hB h
    obtain ⟨o1, s1, e1⟩ : ∃ o1 s1, xf_runner σ = (o1, s1) := ⟨_, _, rfl⟩
    obtain ⟨r1, u1, e2⟩ : ∃ r1 u1, mf_running μ = (r1, u1) := ⟨_, _, rfl⟩
    obtain ⟨h1, -, ha⟩ := kr_run (by omega) h e1 e2
    have h2 := kr_time h1
    have hT : ∃ T, 0 < T ∧ T ≤ B + 1 ∧ kI (sI s1 2 0 (kI s1 2 0 + 1)) 2 0 = nI T := by
      obtain ⟨T, t1, t2, t3⟩ := h1.1.2.2.1
      exact ⟨T + 1, by omega, by omega, by rw [kI_sI, if_pos ⟨rfl, rfl⟩, t2, nI_1]⟩
    have fin : ∀ (σ' : kx_S) (μ' : km_S), kr (N + 1) (B + 1) 2 σ' μ' → (∃ T, 0 < T ∧ T ≤ B + 1 ∧ kI σ' 2 0 = nI T) → kr_ri (N + 9 * (n + 1)) (B + (n + 1)) (xf_tick_L15 n1 n (k + 1) (xf_tickOnce_L35 8 0 σ')) (mf_tick_L15 n1 n (k + 1) (mf_tick_L83 n1 8 0 μ')) := by
      intro σ' μ' h3 hT3
      have h4 := kr_tick_in (B := B + 1) n1 (by omega) 8 0 (N + 1) σ' μ' rfl h3 hT3
      have h5 := ih (k + 1) (N + 1 + 8) (B + 1) _ _ (by omega) (by omega) h4
      rw [show N + 9 * (n + 1) = N + 1 + 8 + 9 * n by omega, show B + (n + 1) = B + 1 + n by omega]
      exact h5
    rw [xf_tick_L15, mf_tick_L15, kk_v, xf_tickOnce, kk_b_eq e1, kk_b_eq e2]
    rcases ha with ⟨rfl, rfl⟩ | ⟨t, ht, rfl, rfl, hs⟩
    · rw [kk_o_none, if_pos (show (-1 : Int32) < 0 by decide), kk_v]
      exact fin _ _ (kr_mono (by omega) h2) hT
    · rw [kk_o_some, if_neg (nI_pos (by omega)), nI_clamp (n := t) (by omega), kk_v, xf_useTick]
      have e10 : kI (sI s1 2 0 (kI s1 2 0 + 1)) 10 t = 1 := by rw [kI_sI, if_neg (by omega)]; exact hs
      generalize sI s1 2 0 (kI s1 2 0 + 1) = σ2 at *
      generalize sM u1 2 0 (mI u1 2 0 + 1) = μ2 at *
      have eu : kI σ2 14 t = mI μ2 7 t := (h2.2.2.2.2.2 t ht).1.2.2.2.1
      have h3 := kr_used (kI σ2 14 t + 1) h2 ht
      rw [← eu]
      have hT3 : ∃ T, 0 < T ∧ T ≤ B + 1 ∧ kI (sI σ2 14 t (kI σ2 14 t + 1)) 2 0 = nI T := by
        obtain ⟨T, t1, t2, t3⟩ := hT
        exact ⟨T, t1, t2, by rw [kI_sI, if_neg (by omega)]; exact t3⟩
      have f10 : kI (sI σ2 14 t (kI σ2 14 t + 1)) 10 t = 1 := by rw [kI_sI, if_neg (by omega)]; exact e10
      generalize sI σ2 14 t (kI σ2 14 t + 1) = σ3 at *
      generalize sM μ2 7 t (kI σ2 14 t + 1) = μ3 at *
      have T3 := h3.2.2.2.2.2 t ht
      rw [← T3.1.2.2.1, ← T3.1.2.2.2.1, ← h3.1.1]
      by_cases c : kI σ3 13 t = 0
      · rw [if_pos c, if_pos c, kk_v]; exact fin _ _ (kr_mono (by omega) h3) hT3
      · rw [if_neg c, if_neg c]
        by_cases d : kI σ3 14 t = kI σ3 0 0
        · rw [if_pos d, if_pos d, kk_v, kk_v, kk_v]
          refine fin _ _ (kr_turn h3 ht f10) ?_
          obtain ⟨T, t1, t2, t3⟩ := hT3
          exact ⟨T, t1, t2, by rw [xstart_I, if_neg (by omega)]; exact t3⟩
        · rw [if_neg d, if_neg d, kk_v]; exact fin _ _ (kr_mono (by omega) h3) hT3
theorem kr_tick {N B : Nat} {σ : kx_S} {μ : km_S} (n1 : Int32) (hN : N + 900 < 2 ^ 30) (hB : B + 100 < 2 ^ 29) (h : kr N B 2 σ μ) : kr_ri (N + 900) (B + 100) (xf_tick σ n1) (mf_tick μ n1) := by
  have no : kr_ri (N + 900) (B + 100) ((-1 : Int32), σ) ((-1 : Int32), μ) := ⟨rfl, kr_monoB (by omega) (kr_mono (by omega) h)⟩
  rw [xf_tick, mf_tick]
  by_cases c : n1 < 1
  · rw [if_pos c, if_pos c]; exact no
  · rw [if_neg c, if_neg c]
    by_cases d : n1 ≤ 100
    · rw [if_pos d, if_pos d]
      have e := kk_tn c
      have hn : n1.toNatClampNeg ≤ 100 := by
        obtain ⟨j, hj, e2⟩ := nI_of2 (M := 100) (n := 100) (x := n1) (by decide) (fun q => c (Int32.lt_of_lt_of_le q (by decide))) d
        rw [e2, nI_clamp (by omega)]; exact hj
      obtain ⟨a, b⟩ := kr_tick_L n1 n1.toNatClampNeg 0 N B σ μ (by omega) (by omega) h
      exact ⟨a, kr_monoB (by omega) (kr_mono (by omega) b)⟩
    · rw [if_neg d, if_neg d]; exact no
