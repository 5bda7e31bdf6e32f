/-! the calls, one by one: the same answer, and the relation is kept -/
def kr_ri (N B : Nat) (x : Int32 × kx_S) (y : Int32 × km_S) : Prop := x.1 = y.1 ∧ kr N B 2 x.2 y.2
def kr_rl (N B : Nat) (x : Int64 × kx_S) (y : Int64 × km_S) : Prop := x.1 = y.1 ∧ kr N B 2 x.2 y.2
theorem kr_ri_mono {N N' B : Nat} {x : Int32 × kx_S} {y : Int32 × km_S} (hN : N ≤ N') (h : kr_ri N B x y) : kr_ri N' B x y := ⟨h.1, kr_mono hN h.2⟩
theorem kr_run_m {N B : Nat} {σ : kx_S} {μ u : km_S} {r : Int32} (h : kr N B 2 σ μ) (e : mf_running μ = (r, u)) : kr N B 2 σ u := kr_fr h (fun _ _ _ => rfl) (fun _ _ => rfl) (fun f i hf => mf_run_fr e f i hf)
theorem kr_on {N B x : Nat} {σ : kx_S} {μ : km_S} {t : Nat} (h : kr N B x σ μ) (ht : t < 8) (hs : kI σ 10 t = 1) : kI σ 16 t = 0 := (h.2.2.2.2.2 t ht).2.2.2.1 (by rw [hs]; decide)
theorem kr_on10 {N B x : Nat} {σ : kx_S} {μ : km_S} {t : Nat} (h : kr N B x σ μ) (ht : t < 8) (hs : kI σ 10 t = 1) : ∀ m, m < 4 → ¬ kI σ 16 t = 10 + nI m := fun m hm z => kk_z10 hm (by rw [← z]; exact (kr_on h ht hs).symm)
theorem kr_pass {N B : Nat} {σ : kx_S} {μ : km_S} (hN : N < 2 ^ 30) (h : kr N B 2 σ μ) : kr_ri (N + 1) B (xf_pass σ) (mf_pass μ) := by
  obtain ⟨o1, s1, e1⟩ : ∃ o1 s1, xf_runner σ = (o1, s1) := ⟨_, _, rfl⟩
  obtain ⟨r1, u1, e2⟩ : ∃ r1 u1, mf_running μ = (r1, u1) := ⟨_, _, rfl⟩
  obtain ⟨h1, -, ha⟩ := kr_run hN h e1 e2
  rw [xf_pass, mf_pass, kk_b_eq e1, kk_b_eq e2]
  rcases ha with ⟨rfl, rfl⟩ | ⟨t, ht, rfl, rfl, hs⟩
  · rw [kk_o_none, if_neg (by decide)]; exact ⟨rfl, kr_mono (Nat.le_succ N) h1⟩
  · rw [kk_o_some, if_pos (nI_pos' (by omega)), kk_v, kk_v]
    exact ⟨rfl, kr_turn h1 ht hs⟩
theorem kr_running {N B : Nat} {σ : kx_S} {μ : km_S} (hN : N < 2 ^ 30) (h : kr N B 2 σ μ) : kr_ri N B (xf_running σ) (mf_running μ) := by
  obtain ⟨o1, s1, e1⟩ : ∃ o1 s1, xf_runner σ = (o1, s1) := ⟨_, _, rfl⟩
  obtain ⟨r1, u1, e2⟩ : ∃ r1 u1, mf_running μ = (r1, u1) := ⟨_, _, rfl⟩
  obtain ⟨h1, -, ha⟩ := kr_run hN h e1 e2
  rw [xf_running, kk_b_eq e1, e2]
  rcases ha with ⟨rfl, rfl⟩ | ⟨t, ht, rfl, rfl, hs⟩
  · rw [kk_o_none]; exact ⟨rfl, h1⟩
  · rw [kk_o_some]; exact ⟨rfl, h1⟩
/-- TAKING by the running thread -/
theorem kr_take {N B j t : Nat} {σ : kx_S} {μ : km_S} (h : kr N B 2 σ μ) (ht : t < 8) (hj : j < 4) (hs : kI σ 10 t = 1) :
    kr_ri (N + 1) B (kk_v (xf_take (sI σ 18 t 0) t (nI j)) (fun s3 => if (kI s3 10 t) = 1 then (0, s3) else (1, s3))) (if 0 ≤ (mI μ 17 j) then kk_v (mf_block μ (nI t) (10 + nI j) 0) (fun s3 => (1, s3)) else (0, sM (sM μ 17 j (nI t)) 11 t 0)) := by
  have c : (nI j).toNatClampNeg = j := nI_clamp (by omega)
  have hon := kr_on10 h ht hs
  have h1 : kr N B 2 (sI σ 18 t 0) μ := kr_rw 0 h ht hon
  have e10 : kI (sI σ 18 t 0) 10 t = 1 := by rw [kI_sI, if_neg (by omega)]; exact hs
  have e18 : kI (sI σ 18 t 0) 18 t = 0 := by rw [kI_sI, if_pos ⟨rfl, rfl⟩]
  have hon1 := kr_on10 h1 ht e10
  generalize sI σ 18 t 0 = σ1 at *
  rw [kk_v, xf_take, c]
  obtain ⟨o1, o2⟩ := h1.2.1 j hj
  rw [← o1]
  rcases o2 with o2 | ⟨t2, ht2, o2, o3⟩
  · rw [o2, if_pos rfl, if_neg (show ¬ (0 : Int32) ≤ -1 by decide), kk_v, xf_makeOwner, c]
    have f10 : kI (sI σ1 3 j (nI t)) 10 t = 1 := by rw [kI_sI, if_neg (by omega)]; exact e10
    have f18 : kI (sI σ1 3 j (nI t)) 18 t = 0 := by rw [kI_sI, if_neg (by omega)]; exact e18
    rw [if_pos f10, f18, if_pos (by rw [kI_sI, if_neg (by omega)]; exact f10)]
    have h2 : kr N B 2 (sI σ1 3 j (nI t)) (sM μ 17 j (nI t)) := kr_own h1 (Or.inr ⟨t, ht, rfl, Or.inl e10⟩)
    exact ⟨rfl, kr_mono (Nat.le_succ N) (kr_res 0 h2 ht (kr_on10 h2 ht f10))⟩
  · rw [o2, if_neg (kk_nm1 ht2), if_pos (nI_pos' (by omega)), kk_v, kk_v, if_neg (by rw [xblock_I]; simp)]
    exact ⟨rfl, kr_block h1 ht (by rw [e10]; decide) (Or.inl ⟨rfl, rfl⟩) (fun _ _ _ => e18) (fun q hq _ => ⟨fun z => absurd z (kk_m40 j hj q hq).1, fun z => absurd z (kk_m40 j hj q hq).2⟩)⟩
theorem kr_lock {N B : Nat} {σ : kx_S} {μ : km_S} (m1 : Int32) (hN : N < 2 ^ 30) (h : kr N B 2 σ μ) : kr_ri (N + 1) B (xf_lock σ m1) (mf_lock μ m1) := by
  obtain ⟨o1, s1, e1⟩ : ∃ o1 s1, xf_runner σ = (o1, s1) := ⟨_, _, rfl⟩
  obtain ⟨r1, u1, e2⟩ : ∃ r1 u1, mf_running μ = (r1, u1) := ⟨_, _, rfl⟩
  obtain ⟨h1, -, ha⟩ := kr_run hN h e1 e2
  rw [xf_lock, mf_lock, kk_b_eq e1, kk_b_eq e2]
  by_cases c : mf_out m1 4 = 0
  · have c2 : ¬ xf_isBelow m1 4 = 0 := fun z => (kk_bo m1 4).mp z c
    rw [if_pos c]
    rcases ha with ⟨rfl, rfl⟩ | ⟨t, ht, rfl, rfl, hs⟩
    · rw [kk_o_none, if_neg c2, if_pos (by decide)]; exact ⟨rfl, kr_mono (Nat.le_succ N) h1⟩
    · obtain ⟨j, hj, rfl⟩ := vp_in_of (km_in (n := 4) (by decide) c) (by decide)
      have cj : (nI j).toNatClampNeg = j := nI_clamp (by omega)
      rw [kk_o_some, if_neg c2, if_neg (nI_pos (by omega)), nI_clamp (n := t) (by omega), cj, ← (h1.2.1 j hj).1, ← h1.1.2.1, ← ((h1.2.2.2.2.2 t ht).2.1 (by rw [hs]; decide)).1]
      have tk := kr_take h1 ht hj hs
      rw [← (h1.2.1 j hj).1] at tk
      by_cases d : kI s1 3 j = nI t
      · rw [if_pos d, if_pos d]; exact ⟨rfl, kr_mono (Nat.le_succ N) h1⟩
      · rw [if_neg d, if_neg d]
        by_cases g : nI j = 3
        · rw [if_pos g, if_pos g]
          by_cases k : kI s1 11 t ≤ kI s1 1 0
          · rw [if_pos k, if_pos k]; exact tk
          · rw [if_neg k, if_neg k]; exact ⟨rfl, kr_mono (Nat.le_succ N) h1⟩
        · rw [if_neg g, if_neg g]; exact tk
  · have c2 : xf_isBelow m1 4 = 0 := (kk_bo m1 4).mpr c
    rw [if_neg c]
    rcases ha with ⟨rfl, rfl⟩ | ⟨t, ht, rfl, rfl, hs⟩
    · rw [kk_o_none, if_pos c2]; exact ⟨rfl, kr_mono (Nat.le_succ N) h1⟩
    · rw [kk_o_some, if_pos c2]; exact ⟨rfl, kr_mono (Nat.le_succ N) h1⟩
theorem kr_unlock {N B : Nat} {σ : kx_S} {μ : km_S} (m1 : Int32) (hN : N < 2 ^ 30) (h : kr N B 2 σ μ) : kr_ri (N + 1) B (xf_unlock σ m1) (mf_unlock μ m1) := by
  obtain ⟨o1, s1, e1⟩ : ∃ o1 s1, xf_runner σ = (o1, s1) := ⟨_, _, rfl⟩
  obtain ⟨r1, u1, e2⟩ : ∃ r1 u1, mf_running μ = (r1, u1) := ⟨_, _, rfl⟩
  obtain ⟨h1, -, ha⟩ := kr_run hN h e1 e2
  rw [xf_unlock, mf_unlock, kk_b_eq e1, kk_b_eq e2]
  by_cases c : mf_out m1 4 = 0
  · have c2 : ¬ xf_isBelow m1 4 = 0 := fun z => (kk_bo m1 4).mp z c
    rw [if_pos c]
    rcases ha with ⟨rfl, rfl⟩ | ⟨t, ht, rfl, rfl, hs⟩
    · rw [kk_o_none, if_neg c2, if_pos (by decide)]; exact ⟨rfl, kr_mono (Nat.le_succ N) h1⟩
    · obtain ⟨j, hj, rfl⟩ := vp_in_of (km_in (n := 4) (by decide) c) (by decide)
      have cj : (nI j).toNatClampNeg = j := nI_clamp (by omega)
      rw [kk_o_some, if_neg c2, if_neg (nI_pos (by omega)), cj, ← (h1.2.1 j hj).1]
      by_cases d : kI s1 3 j = nI t
      · rw [if_pos d, if_pos d, kk_v, kk_v]; exact ⟨rfl, kr_give hN h1 hj⟩
      · rw [if_neg d, if_neg d]; exact ⟨rfl, kr_mono (Nat.le_succ N) h1⟩
  · have c2 : xf_isBelow m1 4 = 0 := (kk_bo m1 4).mpr c
    rw [if_neg c]
    rcases ha with ⟨rfl, rfl⟩ | ⟨t, ht, rfl, rfl, hs⟩
    · rw [kk_o_none, if_pos c2]; exact ⟨rfl, kr_mono (Nat.le_succ N) h1⟩
    · rw [kk_o_some, if_pos c2]; exact ⟨rfl, kr_mono (Nat.le_succ N) h1⟩
/-- a deadline on either side: none for 0, else the time and the number -/
theorem kr_due {N B x j : Nat} {σ : kx_S} {μ : km_S} (hB : B < 2 ^ 29) (h : kr N B x σ μ) (hj : 0 < j) (hj2 : j ≤ 1000) : kr_d ((kI σ 2 0).toInt64 + (nI j).toInt64) (mI μ 2 0 + nI j) := by
  obtain ⟨T, hT, t1, t2⟩ := h.1.2.2.1
  refine Or.inr ⟨T + j, by omega, by omega, ?_, ?_⟩
  · rw [t1, nI_l (by omega), nI_l (by omega), lN_add]
  · rw [t2, nI_add]
theorem kk_c20 : ∀ c, c < 2 → (∀ j, j < 4 → ¬ 20 + nI c = 10 + nI j) ∧ ∀ q, q < 2 → ¬ 20 + nI c = 40 + nI q ∧ ¬ 20 + nI c = 50 + nI q := by decide +kernel
theorem kk_c30 : ∀ c, c < 2 → (∀ j, j < 4 → ¬ 30 + nI c = 10 + nI j) ∧ ∀ q, q < 2 → ¬ 30 + nI c = 40 + nI q ∧ ¬ 30 + nI c = 50 + nI q := by decide +kernel
theorem kk_c60 : (∀ j, j < 4 → ¬ (60 : Int32) = 10 + nI j) ∧ ∀ q, q < 2 → ¬ (60 : Int32) = 40 + nI q ∧ ¬ (60 : Int32) = 50 + nI q := by decide +kernel
theorem kk_c70 : ∀ c, c < 8 → (∀ j, j < 4 → ¬ 70 + nI c = 10 + nI j) ∧ ∀ q, q < 2 → ¬ 70 + nI c = 40 + nI q ∧ ¬ 70 + nI c = 50 + nI q := by decide +kernel
theorem mblock_mind (μ : km_S) {t : Nat} (ht : t < 8) (w d v : Int32) (f i : Nat) : mI (sM (mf_block μ (nI t) w d) 12 t v) f i = mI (mf_block (sM μ 12 t v) (nI t) w d) f i := by
  rw [mI_sM, mblock_c μ ht, mblock_c _ ht]
  by_cases c : f = 12 ∧ i = t
  · obtain ⟨rfl, rfl⟩ := c
    simp [mI_sM]
  · rw [if_neg c]
    simp [mI_sM, c]
theorem kr_aw {N B t c j : Nat} {σ : kx_S} {μ : km_S} {D : Int64} {d : Int32} (hN : N + 1 < 2 ^ 30) (h : kr N B 2 σ μ) (ht : t < 8) (hc : c < 2) (hj : j < 4) (hs : kI σ 10 t = 1) (hD : kr_d D d) : kr (N + 2) B 2 (xf_give (xf_block (sI σ 17 t (nI j)) t (20 + nI c) D) (nI j)) (mf_give (sM (mf_block μ (nI t) (20 + nI c) d) 12 t (nI j)) (nI j)) := by
  have h1 : kr N B 2 (sI σ 17 t (nI j)) (sM μ 12 t (nI j)) := kr_mind h ht (vp_in_nI hj (by decide))
  have h2 : kr (N + 1) B 2 (xf_block (sI σ 17 t (nI j)) t (20 + nI c) D) (mf_block (sM μ 12 t (nI j)) (nI t) (20 + nI c) d) := kr_block h1 ht (by rw [kI_sI, if_neg (by omega), hs]; decide) hD (fun m hm z => absurd z ((kk_c20 c hc).1 m hm)) (fun q hq _ => ⟨fun z => absurd z ((kk_c20 c hc).2 q hq).1, fun z => absurd z ((kk_c20 c hc).2 q hq).2⟩)
  exact kr_give hN (kr_fr h2 (fun _ _ _ => rfl) (fun _ _ => rfl) (fun f i _ => mblock_mind μ ht _ _ _ f i)) hj
theorem kr_await {N B : Nat} {σ : kx_S} {μ : km_S} (cc1 m1 n1 : Int32) (hN : N + 1 < 2 ^ 30) (hB : B < 2 ^ 29) (h : kr N B 2 σ μ) : kr_ri (N + 2) B (xf_await σ cc1 m1 n1) (mf_await μ cc1 m1 n1) := by
  obtain ⟨o1, s1, e1⟩ : ∃ o1 s1, xf_runner σ = (o1, s1) := ⟨_, _, rfl⟩
  obtain ⟨r1, u1, e2⟩ : ∃ r1 u1, mf_running μ = (r1, u1) := ⟨_, _, rfl⟩
  obtain ⟨h1, -, ha⟩ := kr_run (by omega) h e1 e2
  have hm := kr_run_m h e2
  rw [xf_await, mf_await, kk_b_eq e1, kk_b_eq e2]
  by_cases c : mf_out cc1 2 = 0
  · rw [if_neg (fun z => (kk_bo cc1 2).mp z c), if_pos c]
    by_cases d : mf_out m1 4 = 0
    · rw [if_neg (fun z => (kk_bo m1 4).mp z d), if_pos d]
      by_cases g : mf_out n1 1001 = 0
      · have g2 : ¬ xf_isTimeout n1 = 0 := fun z => (kk_bt n1).mp z g
        rw [if_neg g2, if_pos g]
        rcases ha with ⟨rfl, rfl⟩ | ⟨t, ht, rfl, rfl, hs⟩
        · rw [kk_o_none, if_pos (by decide)]; exact ⟨rfl, kr_mono (by omega) h1⟩
        · obtain ⟨j, hj, rfl⟩ := vp_in_of (km_in (n := 4) (by decide) d) (by decide)
          obtain ⟨c0, hc0, rfl⟩ := vp_in_of (km_in (n := 2) (by decide) c) (by decide)
          have cj : (nI j).toNatClampNeg = j := nI_clamp (by omega)
          rw [kk_o_some, if_neg (nI_pos (by omega)), cj, nI_clamp (n := t) (by omega), ← (h1.2.1 j hj).1]
          by_cases k : kI s1 3 j = nI t
          · rw [if_pos k, if_pos k]
            obtain ⟨n, hn, rfl⟩ := kk_tm g2
            rw [xf_deadlineAfter]
            by_cases z : nI n = 0
            · rw [if_pos z, if_pos z, kk_b_eq rfl, kk_v, kk_v, kk_v, kk_v]
              exact ⟨rfl, kr_aw hN h1 ht hc0 hj hs (Or.inl ⟨rfl, rfl⟩)⟩
            · have hn0 : 0 < n := by
                rcases Nat.eq_zero_or_pos n with q | q
                · subst q; exact absurd rfl z
                · exact q
              rw [if_neg z, if_neg z, kk_b_eq rfl, kk_v, kk_v, kk_v, kk_v]
              refine ⟨rfl, kr_aw hN h1 ht hc0 hj hs ?_⟩
              rw [kI_sI, if_neg (by omega)]
              exact kr_due hB h1 hn0 hn
          · rw [if_neg k, if_neg k]; exact ⟨rfl, kr_mono (by omega) h1⟩
      · rw [if_pos ((kk_bt n1).mpr g), if_neg g]; exact ⟨rfl, kr_mono (by omega) hm⟩
    · rw [if_pos ((kk_bo m1 4).mpr d), if_neg d]; exact ⟨rfl, kr_mono (by omega) hm⟩
  · rw [if_pos ((kk_bo cc1 2).mpr c), if_neg c]; exact ⟨rfl, kr_mono (by omega) hm⟩
theorem kr_sig_L {B c : Nat} (hc : c < 2) (all : Int32) : ∀ (n k N : Nat) (w : Int32) (σ : kx_S) (μ : km_S), N + n < 2 ^ 30 → kr N B 2 σ μ → kr_ri (N + n) B (xf_signal_L27 (nI c) all n k w σ) (mf_signal_L16 (nI c) all n k w μ) := by
  intro n
  induction n with
  | zero => intro k N w σ μ hN h; exact ⟨rfl, h⟩
  | succ n ih =>
    intro k N w σ μ hN h
    obtain ⟨o1, s1, e1⟩ : ∃ o1 s1, xf_firstWaiter σ (20 + nI c) = (o1, s1) := ⟨_, _, rfl⟩
    obtain ⟨r1, u1, e2⟩ : ∃ r1 u1, mf_firstWaiter μ (20 + nI c) = (r1, u1) := ⟨_, _, rfl⟩
    obtain ⟨h1, ha⟩ := kr_fw (by omega) h e1 e2
    rw [xf_signal_L27, mf_signal_L16, kk_b_eq e1, kk_b_eq e2]
    rcases ha with ⟨rfl, rfl⟩ | ⟨t, ht, rfl, rfl, hs, hon⟩
    · rw [kk_o_none, if_neg (by decide)]; exact ⟨rfl, kr_mono (by omega) h1⟩
    · rw [kk_o_some, if_pos (nI_pos' (by omega)), kk_v, kk_v]
      have h2 := kr_retake 0 h1 ht hs (fun m hm z => (kk_c20 c hc).1 m hm (by rw [← hon]; exact z))
      have h3 := ih (k + 1) (N + 1) (w + 1) _ _ (by omega) h2
      rw [show N + (n + 1) = N + 1 + n by omega]
      exact h3
theorem kr_signal {N B : Nat} {σ : kx_S} {μ : km_S} (cc1 all : Int32) (hN : N + 8 < 2 ^ 30) (h : kr N B 2 σ μ) : kr_ri (N + 8) B (xf_signal σ cc1 all) (mf_signal μ cc1 all) := by
  rw [xf_signal, mf_signal]
  by_cases c : mf_out cc1 2 = 0
  · rw [if_neg (fun z => (kk_bo cc1 2).mp z c), if_pos c]
    obtain ⟨c0, hc0, rfl⟩ := vp_in_of (km_in (n := 2) (by decide) c) (by decide)
    by_cases a : all = 0
    · rw [if_pos a, if_pos a]
      obtain ⟨o1, s1, e1⟩ : ∃ o1 s1, xf_firstWaiter σ (20 + nI c0) = (o1, s1) := ⟨_, _, rfl⟩
      obtain ⟨r1, u1, e2⟩ : ∃ r1 u1, mf_firstWaiter μ (20 + nI c0) = (r1, u1) := ⟨_, _, rfl⟩
      obtain ⟨h1, ha⟩ := kr_fw (by omega) h e1 e2
      rw [kk_b_eq e1, kk_b_eq e2]
      rcases ha with ⟨rfl, rfl⟩ | ⟨t, ht, rfl, rfl, hs, hon⟩
      · rw [kk_o_none, if_neg (by decide)]; exact ⟨rfl, kr_mono (by omega) h1⟩
      · rw [kk_o_some, if_pos (nI_pos' (by omega)), kk_v, kk_v]
        exact ⟨rfl, kr_mono (by omega) (kr_retake 0 h1 ht hs (fun m hm z => (kk_c20 c0 hc0).1 m hm (by rw [← hon]; exact z)))⟩
    · rw [if_neg a, if_neg a]
      exact kr_sig_L hc0 all 8 0 N 0 σ μ (by omega) h
  · rw [if_pos ((kk_bo cc1 2).mpr c), if_neg c]; exact ⟨rfl, kr_mono (by omega) h⟩
