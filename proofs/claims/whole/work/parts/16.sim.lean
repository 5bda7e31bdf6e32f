/-! spawn, priority, down, post, sleep, join, exit, owner, count, tell -/
theorem kk_pr (b : Int32) : xf_isPriority b = 0 ↔ b < 1 ∨ 31 < b := by
  unfold xf_isPriority
  by_cases c : b < 1
  · rw [if_pos c]; exact ⟨fun _ => Or.inl c, fun _ => rfl⟩
  · rw [if_neg c]
    by_cases d : 31 < b
    · rw [if_pos d]; exact ⟨fun _ => Or.inr d, fun _ => rfl⟩
    · rw [if_neg d]; exact ⟨fun z => absurd z (by decide), fun z => z.elim (fun y => absurd y c) (fun y => absurd y d)⟩
theorem kr_spawn_L {N B : Nat} {σ : kx_S} {μ : km_S} (base sl : Int32) (hsl : sl = 0 ∨ sl = 1) (h : kr N B 2 σ μ) : ∀ n k, n + k = 8 →
    kr_ri (N + 1) B (kk_b (xf_leastFree_L10 n k σ) (fun o1 s1 => kk_o o1 ((-1), s1) (fun t1 => kk_v (xf_makeReady (sI (sI s1 11 t1 base) 13 t1 sl) t1 0) (fun s2 => (nI t1, s2))))) (mf_spawn_L15 base sl n k μ) := by
  intro n
  induction n with
  | zero => intro k hnk; exact ⟨rfl, kr_mono (Nat.le_succ N) h⟩
  | succ n ih =>
    intro k hnk
    have hk : k < 8 := by omega
    have T := h.2.2.2.2.2 k hk
    rw [xf_leastFree_L10, mf_spawn_L15, ← T.1.1]
    by_cases c : kI σ 10 k = 0
    · rw [if_pos c, if_pos c, kk_b_eq rfl, kk_o_some, kk_v, kk_v]
      refine ⟨rfl, kr_ready0 h hk (fun f i h1 => by rw [kI_sI, if_neg (by omega), kI_sI, if_neg (by omega)]) (fun _ _ => rfl) (fun f i h1 => by rw [mI_sM, if_neg (by omega), mI_sM, if_neg (by omega), mI_sM, if_neg (by omega)]) ⟨?_, ⟨?_, ?_⟩, ?_, ?_, ?_, ?_⟩⟩
      · have e : vp_nar .boolean sl = sl := by rcases hsl with rfl | rfl <;> decide
        simp [kI_sI, mI_sM, e]
      · simpa [kI_sI, mI_sM] using T.1.2.2.2.2.1.1
      · simpa [kI_sI, mI_sM] using T.1.2.2.2.2.1.2
      · simpa [kI_sI, mI_sM] using T.1.2.2.2.2.2.1
      · simpa [kI_sI, mI_sM] using T.1.2.2.2.2.2.2
      · simp [kI_sI, mI_sM]
      · simp [mI_sM]
    · rw [if_neg c, if_neg c]; exact ih (k + 1) (by omega)
theorem kr_spawn {N B : Nat} {σ : kx_S} {μ : km_S} (base sl : Int32) (hsl : sl = 0 ∨ sl = 1) (h : kr N B 2 σ μ) : kr_ri (N + 1) B (xf_spawn σ base sl) (mf_spawn μ base sl) := by
  rw [xf_spawn, mf_spawn]
  by_cases c : base < 1
  · rw [if_pos ((kk_pr base).mpr (Or.inl c)), if_pos c]; exact ⟨rfl, kr_mono (Nat.le_succ N) h⟩
  · rw [if_neg c]
    by_cases d : base ≤ 31
    · rw [if_pos d, if_neg (fun z => ((kk_pr base).mp z).elim c (fun y => Int32.not_lt.mpr d y))]
      exact kr_spawn_L base sl hsl h 8 0 rfl
    · rw [if_neg d, if_pos ((kk_pr base).mpr (Or.inr (Int32.not_le.mp d)))]; exact ⟨rfl, kr_mono (Nat.le_succ N) h⟩
theorem kr_base {N B x : Nat} {σ : kx_S} {μ : km_S} {t : Nat} (v : Int32) (h : kr N B x σ μ) (ht : t < 8) : kr N B x (sI σ 11 t v) (sM μ 5 t v) := by
  obtain ⟨⟨a1, a2, a3, a4, a5, a6, a7⟩, b, c, d, e, f, g⟩ := h.2.2.2.2.2 t ht
  refine kr_th h ht (fun f i h1 => by rw [kI_sI, if_neg (by omega)]) (fun _ _ => rfl) (fun f i h1 => by rw [mI_sM, if_neg (by omega)]) (by rw [kI_sI, if_neg (by omega)]) (by rw [kI_sI, if_neg (by omega)]) ⟨⟨?_, ?_, ?_, ?_, ⟨?_, ?_⟩, ?_, ?_⟩, ?_, ?_, ?_, ?_, ?_, ?_⟩
  · simpa [kI_sI, mI_sM] using a1
  · simpa [kI_sI, mI_sM] using a2
  · simpa [kI_sI, mI_sM] using a3
  · simpa [kI_sI, mI_sM] using a4
  · simpa [kI_sI, mI_sM] using a5.1
  · simpa [kI_sI, mI_sM] using a5.2
  · simpa [kI_sI, mI_sM] using a6
  · simpa [kI_sI, mI_sM] using a7
  · intro z; exact ⟨by simp [kI_sI, mI_sM], by simpa [kI_sI, mI_sM] using (b (by simpa [kI_sI] using z)).2⟩
  · simpa [kI_sI, kJ_sI, mI_sM] using c
  · simpa [kI_sI, mI_sM] using d
  · simpa [kI_sI, kJ_sI, mI_sM] using e
  · simpa [kI_sI, kJ_sI, mI_sM] using f
  · simpa [kI_sI, mI_sM] using g
/-- a READY thread gets a new stamp, nothing else -/
theorem kr_stamp {N B : Nat} {σ : kx_S} {μ : km_S} {t : Nat} (h : kr N B 2 σ μ) (ht : t < 8) (hs : kI σ 10 t = 1) : kr (N + 1) B 2 (sJ (sJ σ 2 0 (kJ σ 2 0 + 1)) 0 t (kJ σ 2 0 + 1)) (sM (sM μ 3 0 (mI μ 3 0 + 1)) 6 t (mI (sM μ 3 0 (mI μ 3 0 + 1)) 3 0)) := by
  obtain ⟨n, hn, n1, n2⟩ := h.1.2.2.2
  obtain ⟨⟨a1, a2, a3, a4, a5, a6, a7⟩, b, c, d, e, f, g⟩ := h.2.2.2.2.2 t ht
  have hon : kI σ 16 t = 0 := d (by rw [hs]; decide)
  refine kr_up (t := t) h (Nat.le_succ N) (fun f i h1 h2 => rfl) (fun f i h1 h2 => ?_) (fun f i h1 h2 h3 => ?_) ⟨n + 1, by omega, ?_, ?_⟩ ⟨⟨?_, ?_, ?_, ?_, ⟨?_, ?_⟩, ?_, ?_⟩, ?_, ?_, ?_, ?_, ?_, ?_⟩ (fun q hq hqx => ?_) (Or.inl (Or.inl hs))
  · rw [kJ_sJ, if_neg (by omega), kJ_sJ, if_neg (by omega)]
  · rw [mI_sM, if_neg (by omega), mI_sM, if_neg (by omega)]
  · simp [kJ_sJ, n1, lN_1]
  · simp [mI_sM, n2, nI_1]
  · simpa [kI_sJ, mI_sM] using a1
  · simpa [kI_sJ, mI_sM] using a2
  · simpa [kI_sJ, mI_sM] using a3
  · simpa [kI_sJ, mI_sM] using a4
  · simpa [kI_sJ, mI_sM] using a5.1
  · simpa [kI_sJ, mI_sM] using a5.2
  · simpa [kI_sJ, mI_sM] using a6
  · simpa [kI_sJ, mI_sM] using a7
  · simpa [kI_sJ, mI_sM] using b
  · simpa [kI_sJ, kJ_sJ, mI_sM] using c
  · simpa [kI_sJ, mI_sM] using d
  · intro _; exact ⟨n + 1, by omega, by simp [kJ_sJ, n1, lN_1], by simp [mI_sM, n2, nI_1]⟩
  · intro z; rw [kI_sJ, kI_sJ, hs] at z; exact absurd z (by decide)
  · simpa [kI_sJ, mI_sM] using g
  · exact h.2.2.2.2.1 t q ht hq hqx
theorem kr_prio1 {N B : Nat} {σ : kx_S} {μ : km_S} {t : Nat} (base : Int32) (h : kr N B 2 σ μ) (ht : t < 8) :
    kr_ri (N + 1) B (if (kI (sI σ 11 t base) 10 t) = 1 then (0, sJ (sJ (sI σ 11 t base) 2 0 ((kJ (sI σ 11 t base) 2 0) + 1)) 0 t ((kJ (sI σ 11 t base) 2 0) + 1)) else (0, sI σ 11 t base)) (if (mI (sM μ 5 t base) 4 t) = 1 then kk_b (mf_newStamp (sM μ 5 t base)) (fun r2 s2 => (0, sM s2 6 t r2)) else (0, sM μ 5 t base)) := by
  have h1 := kr_base base h ht
  have e : kI (sI σ 11 t base) 10 t = mI (sM μ 5 t base) 4 t := (h1.2.2.2.2.2 t ht).1.1
  rw [← e]
  by_cases c : kI (sI σ 11 t base) 10 t = 1
  · rw [if_pos c, if_pos c, mf_newStamp, kk_b_eq rfl]
    exact ⟨rfl, kr_stamp h1 ht c⟩
  · rw [if_neg c, if_neg c]; exact ⟨rfl, kr_mono (Nat.le_succ N) h1⟩
theorem kr_priority {N B : Nat} {σ : kx_S} {μ : km_S} (thread base : Int32) (h : kr N B 2 σ μ) : kr_ri (N + 1) B (xf_priority σ thread base) (mf_priority μ thread base) := by
  have no : kr_ri (N + 1) B ((-1 : Int32), σ) ((-1 : Int32), μ) := ⟨rfl, kr_mono (Nat.le_succ N) h⟩
  rw [xf_priority, mf_priority]
  by_cases c : mf_out thread 8 = 0
  · rw [if_neg (fun z => (kk_bo thread 8).mp z c), if_pos c]
    obtain ⟨t, ht, rfl⟩ := vp_in_of (km_in (n := 8) (by decide) c) (by decide)
    have T := h.2.2.2.2.2 t ht
    rw [nI_clamp (n := t) (by omega), ← T.1.1, ← (h.2.1 3 (by decide)).1, ← h.1.2.1]
    by_cases d : base < 1
    · rw [if_pos ((kk_pr base).mpr (Or.inl d)), if_pos d]; exact no
    · rw [if_neg d]
      by_cases g : 31 < base
      · rw [if_pos ((kk_pr base).mpr (Or.inr g)), if_pos g]; exact no
      · rw [if_neg (fun z => ((kk_pr base).mp z).elim d g), if_neg g]
        by_cases k : kI σ 10 t = 0
        · rw [if_pos k, if_pos k]; exact no
        · rw [if_neg k, if_neg k]
          by_cases l : kI σ 10 t = 3
          · rw [if_pos l, if_pos l]; exact no
          · rw [if_neg l, if_neg l]
            by_cases m : kI σ 3 3 = nI t
            · rw [if_pos m, if_pos m]
              by_cases n : base ≤ kI σ 1 0
              · rw [if_pos n, if_pos n]; exact kr_prio1 base h ht
              · rw [if_neg n, if_neg n]; exact no
            · rw [if_neg m, if_neg m]; exact kr_prio1 base h ht
  · rw [if_pos ((kk_bo thread 8).mpr c), if_neg c]; exact no
theorem kr_val {N B x s j : Nat} {σ : kx_S} {μ : km_S} {v : Int32} (h : kr N B x σ μ) (hv : v = nI j) (hj : j ≤ 99) : kr N B x (sI σ 4 s v) (sM μ 18 s v) := by
  obtain ⟨g, o, vv, q, b, th⟩ := h
  refine ⟨g, o, fun s2 hs2 => ?_, fun q2 hq2 => ?_, b, fun t ht => kr_t_fr (Nat.le_refl N) (fun f h1 _ => by rw [kI_sI, if_neg (by omega)]) (fun _ _ => rfl) (fun f h1 h2 => by rw [mI_sM, if_neg (by omega)]) (th t ht)⟩
  · rw [kI_sI, mI_sM]
    by_cases e : s2 = s
    · rw [if_pos ⟨rfl, e⟩, if_pos ⟨rfl, e⟩]
      exact ⟨rfl, j, hj, hv⟩
    · rw [if_neg (fun z => e z.2), if_neg (fun z => e z.2)]
      exact vv s2 hs2
  · obtain ⟨j, j1, j2, j3, j4⟩ := q q2 hq2
    refine ⟨j, j1, j2, j3, fun i hi => ?_⟩
    rw [kI_sI, if_neg (by omega), kI_sI, if_neg (by omega)]
    exact j4 i hi
theorem kr_down {N B : Nat} {σ : kx_S} {μ : km_S} (sem n1 : Int32) (hN : N < 2 ^ 30) (hB : B < 2 ^ 29) (h : kr N B 2 σ μ) : kr_ri (N + 1) B (xf_down σ sem n1) (mf_down μ sem n1) := by
  obtain ⟨o1, s1, e1⟩ : ∃ o1 s1, xf_runner σ = (o1, s1) := ⟨_, _, rfl⟩
  obtain ⟨r1, u1, e2⟩ : ∃ r1 u1, mf_running μ = (r1, u1) := ⟨_, _, rfl⟩
  obtain ⟨h1, -, ha⟩ := kr_run hN h e1 e2
  have no : kr_ri (N + 1) B ((-1 : Int32), s1) ((-1 : Int32), u1) := ⟨rfl, kr_mono (Nat.le_succ N) h1⟩
  rw [xf_down, mf_down, kk_b_eq e1, kk_b_eq e2]
  by_cases c : mf_out sem 2 = 0
  · have c2 : ¬ xf_isBelow sem 2 = 0 := fun z => (kk_bo sem 2).mp z c
    rw [if_pos c]
    by_cases d : mf_out n1 1001 = 0
    · have d2 : ¬ xf_isTimeout n1 = 0 := fun z => (kk_bt n1).mp z d
      rw [if_pos d]
      rcases ha with ⟨rfl, rfl⟩ | ⟨t, ht, rfl, rfl, hs⟩
      · rw [kk_o_none, if_neg c2, if_neg d2, if_neg (by decide)]; exact no
      · obtain ⟨s, hs2, rfl⟩ := vp_in_of (km_in (n := 2) (by decide) c) (by decide)
        obtain ⟨v1, j, hj, v2⟩ := h1.2.2.1 s hs2
        rw [kk_o_some, if_neg c2, if_neg d2, if_pos (nI_pos' (by omega)), nI_clamp (n := s) (by omega), nI_clamp (n := t) (by omega), ← v1, v2]
        have n0 : ¬ kI s1 10 t = 0 := by rw [hs]; decide
        have bl : ∀ (D : Int64) (d : Int32), kr_d D d → kr (N + 1) B 2 (xf_block s1 t (30 + nI s) D) (mf_block u1 (nI t) (30 + nI s) d) := fun D d hd => kr_block h1 ht n0 hd (fun m hm z => absurd z ((kk_c30 s hs2).1 m hm)) (fun q hq _ => ⟨fun z => absurd z ((kk_c30 s hs2).2 q hq).1, fun z => absurd z ((kk_c30 s hs2).2 q hq).2⟩)
        rcases Nat.eq_zero_or_pos j with rfl | hj0
        · rw [if_pos (by decide), if_pos (by decide), xf_deadlineAfter]
          obtain ⟨n, hn, rfl⟩ := kk_tm d2
          by_cases z : nI n = 0
          · rw [if_pos z, if_pos z, kk_b_eq rfl, kk_v, kk_v]
            exact ⟨rfl, bl _ _ (Or.inl ⟨rfl, rfl⟩)⟩
          · have hn0 : 0 < n := by
              rcases Nat.eq_zero_or_pos n with q | q
              · subst q; exact absurd rfl z
              · exact q
            rw [if_neg z, if_neg z, kk_b_eq rfl, kk_v, kk_v]
            exact ⟨rfl, bl _ _ (kr_due hB h1 hn0 hn)⟩
        · rw [if_neg (nI_ne0 hj0 (by omega)), if_neg (nI_nle hj0 (by omega))]
          have h2 : kr N B 2 (sI s1 4 s (nI j - 1)) (sM u1 18 s (nI j - 1)) := kr_val (j := j - 1) h1 (by rw [show (1 : Int32) = nI 1 from rfl, pk_sub (by omega)]) (by omega)
          refine ⟨rfl, kr_mono (Nat.le_succ N) (kr_res 0 h2 ht (kr_on10 h2 ht ?_))⟩
          rw [kI_sI, if_neg (by omega)]; exact hs
    · rw [if_neg d]
      rcases ha with ⟨rfl, rfl⟩ | ⟨t, ht, rfl, rfl, hs⟩
      · rw [kk_o_none, if_neg c2, if_pos ((kk_bt n1).mpr d)]; exact no
      · rw [kk_o_some, if_neg c2, if_pos ((kk_bt n1).mpr d)]; exact no
  · rw [if_neg c]
    rcases ha with ⟨rfl, rfl⟩ | ⟨t, ht, rfl, rfl, hs⟩
    · rw [kk_o_none, if_pos ((kk_bo sem 2).mpr c)]; exact no
    · rw [kk_o_some, if_pos ((kk_bo sem 2).mpr c)]; exact no
theorem kr_post {N B : Nat} {σ : kx_S} {μ : km_S} (sem : Int32) (hN : N < 2 ^ 30) (h : kr N B 2 σ μ) : kr_ri (N + 1) B (xf_post σ sem) (mf_post μ sem) := by
  rw [xf_post, mf_post]
  by_cases c : mf_out sem 2 = 0
  · rw [if_neg (fun z => (kk_bo sem 2).mp z c), if_pos c]
    obtain ⟨o1, s1, e1⟩ : ∃ o1 s1, xf_firstWaiter σ (30 + sem) = (o1, s1) := ⟨_, _, rfl⟩
    obtain ⟨r1, u1, e2⟩ : ∃ r1 u1, mf_firstWaiter μ (30 + sem) = (r1, u1) := ⟨_, _, rfl⟩
    obtain ⟨h1, ha⟩ := kr_fw hN h e1 e2
    rw [kk_b_eq e1, kk_b_eq e2]
    rcases ha with ⟨rfl, rfl⟩ | ⟨t, ht, rfl, rfl, hs, hon⟩
    · obtain ⟨s, hs2, rfl⟩ := vp_in_of (km_in (n := 2) (by decide) c) (by decide)
      obtain ⟨v1, j, hj, v2⟩ := h1.2.2.1 s hs2
      rw [kk_o_none, if_pos (show (-1 : Int32) < 0 by decide), nI_clamp (n := s) (by omega), ← v1, v2]
      by_cases z : j = 99
      · subst z
        rw [if_neg (show ¬ nI 99 < 99 by decide), if_pos (show nI 99 = 99 by decide)]
        exact ⟨rfl, kr_mono (Nat.le_succ N) h1⟩
      · rw [if_pos (show nI j < 99 from nI_lt (b := 99) (by omega) (by decide)), if_neg (show ¬ nI j = 99 from fun q => z ((nI_eq (a := j) (b := 99) (by omega) (by decide)).mp q))]
        exact ⟨rfl, kr_mono (Nat.le_succ N) (kr_val (j := j + 1) h1 (nI_1 j) (by omega))⟩
    · rw [kk_o_some, if_neg (nI_pos (by omega)), kk_v, kk_v, nI_clamp (n := t) (by omega)]
      exact ⟨rfl, kr_ready h1 ht (by rw [hs]; decide)⟩
  · rw [if_pos ((kk_bo sem 2).mpr c), if_neg c]; exact ⟨rfl, kr_mono (Nat.le_succ N) h⟩
theorem kr_sleep {N B : Nat} {σ : kx_S} {μ : km_S} (n1 : Int32) (hN : N < 2 ^ 30) (hB : B < 2 ^ 29) (h : kr N B 2 σ μ) : kr_ri (N + 1) B (xf_sleep σ n1) (mf_sleep μ n1) := by
  obtain ⟨o1, s1, e1⟩ : ∃ o1 s1, xf_runner σ = (o1, s1) := ⟨_, _, rfl⟩
  obtain ⟨r1, u1, e2⟩ : ∃ r1 u1, mf_running μ = (r1, u1) := ⟨_, _, rfl⟩
  obtain ⟨h1, -, ha⟩ := kr_run hN h e1 e2
  have no : kr_ri (N + 1) B ((-1 : Int32), s1) ((-1 : Int32), u1) := ⟨rfl, kr_mono (Nat.le_succ N) h1⟩
  rw [xf_sleep, mf_sleep, kk_b_eq e1, kk_b_eq e2]
  by_cases c : n1 < 1
  · rcases ha with ⟨rfl, rfl⟩ | ⟨t, ht, rfl, rfl, hs⟩
    · rw [kk_o_none, if_pos c, if_pos c]; exact no
    · rw [kk_o_some, if_pos c, if_pos c]; exact no
  · by_cases d : 1000 < n1
    · rcases ha with ⟨rfl, rfl⟩ | ⟨t, ht, rfl, rfl, hs⟩
      · rw [kk_o_none, if_neg c, if_neg c, if_pos d, if_pos d]; exact no
      · rw [kk_o_some, if_neg c, if_neg c, if_pos d, if_pos d]; exact no
    · rcases ha with ⟨rfl, rfl⟩ | ⟨t, ht, rfl, rfl, hs⟩
      · rw [kk_o_none, if_neg c, if_neg c, if_neg d, if_neg d, if_neg (show ¬ (0 : Int32) ≤ -1 by decide)]; exact no
      · obtain ⟨n, hn, rfl⟩ := nI_of2 (M := 1000) (n := 1000) (x := n1) (by decide) (fun q => c (Int32.lt_of_lt_of_le q (by decide))) (Int32.not_lt.mp d)
        have hn0 : 0 < n := by
          rcases Nat.eq_zero_or_pos n with q | q
          · subst q; exact absurd (by decide) c
          · exact q
        rw [kk_o_some, if_neg c, if_neg c, if_neg d, if_neg d, if_pos (nI_pos' (by omega)), xf_deadlineAfter, if_neg (nI_ne0 hn0 (by omega)), kk_b_eq rfl, kk_v, kk_v]
        exact ⟨rfl, kr_block h1 ht (by rw [hs]; decide) (kr_due hB h1 hn0 hn) (fun m hm z => absurd z (kk_c60.1 m hm)) (fun q hq _ => ⟨fun z => absurd z (kk_c60.2 q hq).1, fun z => absurd z (kk_c60.2 q hq).2⟩)⟩
/-- a thread that isn't BLOCKED and owns nothing gets another state that isn't BLOCKED: FREE, or a ZOMBIE -/
theorem kr_end {N B : Nat} {σ : kx_S} {μ : km_S} {t : Nat} {v : Int32} (h : kr N B 2 σ μ) (ht : t < 8) (hs : ¬ kI σ 10 t = 2) (hs0 : ¬ kI σ 10 t = 0) (hv : ¬ v = 1 ∧ ¬ v = 2) (ho : ∀ m, m < 4 → ¬ kI σ 3 m = nI t) : kr N B 2 (sI σ 10 t v) (sM μ 4 t v) := by
  obtain ⟨n, hn, n1, n2⟩ := h.1.2.2.2
  obtain ⟨⟨a1, a2, a3, a4, a5, a6, a7⟩, b, c, d, e, f, g⟩ := h.2.2.2.2.2 t ht
  refine kr_up (t := t) h (Nat.le_refl N) (fun f i h1 h2 => by rw [kI_sI, if_neg (by omega)]) (fun f i h1 h2 => rfl) (fun f i h1 h2 h3 => by rw [mI_sM, if_neg (by omega)]) ⟨n, hn, n1, by rw [mI_sM, if_neg (by omega)]; exact n2⟩ ⟨⟨?_, ?_, ?_, ?_, ⟨?_, ?_⟩, ?_, ?_⟩, ?_, ?_, ?_, ?_, ?_, ?_⟩ (fun q hq hqx => ?_) (Or.inr ho)
  · simp [kI_sI, mI_sM]
  · simpa [kI_sI, mI_sM] using a2
  · simpa [kI_sI, mI_sM] using a3
  · simpa [kI_sI, mI_sM] using a4
  · simpa [kI_sI, mI_sM] using a5.1
  · simpa [kI_sI, mI_sM] using a5.2
  · simpa [kI_sI, mI_sM] using a6
  · simpa [kI_sI, mI_sM] using a7
  · intro _; simpa [kI_sI, mI_sM] using b hs0
  · rcases c with c | ⟨_, _, _, _, _, c⟩
    · exact Or.inl (by simpa [kJ_sI, mI_sM] using c)
    · exact absurd c hs
  · intro _; simpa [kI_sI] using d hs
  · intro z; rw [kI_sI, if_pos ⟨rfl, rfl⟩] at z; exact absurd z hv.1
  · intro z; rw [kI_sI, if_pos ⟨rfl, rfl⟩] at z; exact absurd z hv.2
  · intro m hm4 z; rw [kI_sI, if_neg (by omega), d hs] at z; exact absurd z (kk_z10 hm4)
  · rw [kI_sI, if_neg (by omega)]; exact h.2.2.2.2.1 t q ht hq hqx
theorem kr_noown {N B x : Nat} {σ : kx_S} {μ : km_S} {t : Nat} (h : kr N B x σ μ) (ht : t < 8) (h1 : ¬ kI σ 10 t = 1) (h2 : ¬ kI σ 10 t = 2) : ∀ m, m < 4 → ¬ kI σ 3 m = nI t := (kr_ho h t ht).resolve_left (fun z => z.elim h1 h2)
theorem kr_join {N B : Nat} {σ : kx_S} {μ : km_S} (th : Int32) (hN : N < 2 ^ 30) (h : kr N B 2 σ μ) : kr_ri (N + 1) B (xf_join σ th) (mf_join μ th) := by
  obtain ⟨o1, s1, e1⟩ : ∃ o1 s1, xf_runner σ = (o1, s1) := ⟨_, _, rfl⟩
  obtain ⟨r1, u1, e2⟩ : ∃ r1 u1, mf_running μ = (r1, u1) := ⟨_, _, rfl⟩
  obtain ⟨h1, -, ha⟩ := kr_run hN h e1 e2
  have no : kr_ri (N + 1) B ((-1 : Int32), s1) ((-1 : Int32), u1) := ⟨rfl, kr_mono (Nat.le_succ N) h1⟩
  rw [xf_join, mf_join, kk_b_eq e1, kk_b_eq e2]
  by_cases c : mf_out th 8 = 0
  · have c2 : ¬ xf_isBelow th 8 = 0 := fun z => (kk_bo th 8).mp z c
    rw [if_pos c]
    rcases ha with ⟨rfl, rfl⟩ | ⟨t, ht, rfl, rfl, hs⟩
    · rw [kk_o_none, if_neg c2, if_neg (by decide)]; exact no
    · obtain ⟨k, hk, rfl⟩ := vp_in_of (km_in (n := 8) (by decide) c) (by decide)
      have T := h1.2.2.2.2.2 k hk
      rw [kk_o_some, if_neg c2, if_pos (nI_pos' (by omega)), nI_clamp (n := k) (by omega), nI_clamp (n := t) (by omega), ← T.1.1]
      by_cases d : nI t = nI k
      · have e : t = k := (nI_eq (by omega) (by omega)).mp d
        subst e
        rw [if_pos rfl, if_neg (by rw [hs]; decide), if_neg (by rw [hs]; decide), if_pos rfl]
        exact no
      · have hne : ¬ k = t := fun z => d (by rw [z])
        rw [if_neg d]
        by_cases z3 : kI s1 10 k = 3
        · rw [if_pos z3, if_pos z3]
          have v : kI s1 15 k = mI u1 11 k := (T.2.1 (by rw [z3]; decide)).2
          have w : mI (sM u1 4 k 0) 11 k = kI s1 15 k := by rw [mI_sM, if_neg (by omega)]; exact v.symm
          rw [w]
          have h2 := kr_res (kI s1 15 k) h1 ht (kr_on10 h1 ht hs)
          have f3 : kI (sI s1 15 t (kI s1 15 k)) 10 k = 3 := by rw [kI_sI, if_neg (by omega)]; exact z3
          have h3 := kr_end (v := 0) h2 hk (by rw [f3]; decide) (by rw [f3]; decide) (by decide) (kr_noown h2 hk (by rw [f3]; decide) (by rw [f3]; decide))
          refine ⟨rfl, kr_mono (Nat.le_succ N) (kr_fr h3 (fun _ _ _ => rfl) (fun _ _ => rfl) (fun f i _ => ?_))⟩
          rw [mI_sM, mI_sM, mI_sM, mI_sM]
          by_cases q1 : f = 11 ∧ i = t
          · rw [if_pos q1, if_neg (by omega), if_pos q1]
          · rw [if_neg q1, if_neg q1]
        · rw [if_neg z3, if_neg z3]
          by_cases z0 : kI s1 10 k = 0
          · rw [if_pos z0, if_pos z0]; exact no
          · rw [if_neg z0, if_neg z0, if_neg (fun z => d z.symm)]
            obtain ⟨o2, s2, e3⟩ : ∃ o2 s2, xf_firstWaiter s1 (70 + nI k) = (o2, s2) := ⟨_, _, rfl⟩
            obtain ⟨r2, u2, e4⟩ : ∃ r2 u2, mf_firstWaiter u1 (70 + nI k) = (r2, u2) := ⟨_, _, rfl⟩
            obtain ⟨h2, hb⟩ := kr_fw hN h1 e3 e4
            rw [kk_b_eq e3, kk_b_eq e4]
            rcases hb with ⟨rfl, rfl⟩ | ⟨t2, ht2, rfl, rfl, hs2, hon2⟩
            · rw [kk_o_none, if_pos (by decide), kk_v, kk_v]
              exact ⟨rfl, kr_block h2 ht (by rw [xf_fw_fr e3 10 t (by decide), hs]; decide) (Or.inl ⟨rfl, rfl⟩) (fun m hm z => absurd z ((kk_c70 k hk).1 m hm)) (fun q hq _ => ⟨fun z => absurd z ((kk_c70 k hk).2 q hq).1, fun z => absurd z ((kk_c70 k hk).2 q hq).2⟩)⟩
            · rw [kk_o_some, if_neg (nI_pos (by omega))]; exact ⟨rfl, kr_mono (Nat.le_succ N) h2⟩
  · rw [if_neg c]
    rcases ha with ⟨rfl, rfl⟩ | ⟨t, ht, rfl, rfl, hs⟩
    · rw [kk_o_none, if_pos ((kk_bo th 8).mpr c)]; exact no
    · rw [kk_o_some, if_pos ((kk_bo th 8).mpr c)]; exact no
theorem kr_owner {N B : Nat} {σ : kx_S} {μ : km_S} (m1 : Int32) (h : kr N B 2 σ μ) : kr_ri N B (xf_owner σ m1) (mf_owner μ m1) := by
  rw [xf_owner, mf_owner]
  by_cases c : mf_out m1 4 = 0
  · rw [if_neg (fun z => (kk_bo m1 4).mp z c), if_pos c]
    obtain ⟨k, hk, rfl⟩ := vp_in_of (km_in (n := 4) (by decide) c) (by decide)
    rw [nI_clamp (n := k) (by omega)]
    exact ⟨(h.2.1 k hk).1, h⟩
  · rw [if_pos ((kk_bo m1 4).mpr c), if_neg c]; exact ⟨rfl, h⟩
theorem kr_count_L {N B : Nat} {σ : kx_S} {μ : km_S} (what : Int32) (h : kr N B 2 σ μ) : ∀ n k w, n + k = 8 → mf_count_L4 what n k w μ = mf_count_L4 what 0 8 (xf_readyThreads_L13 n k w σ).1 μ ∧ (xf_readyThreads_L13 n k w σ).2 = σ := by
  intro n
  induction n with
  | zero => intro k w hnk; exact ⟨by simp only [mf_count_L4, xf_readyThreads_L13], rfl⟩
  | succ n ih =>
    intro k w hnk
    rw [mf_count_L4.eq_2, xf_readyThreads_L13, ← (h.2.2.2.2.2 k (by omega)).1.1]
    by_cases c : kI σ 10 k = 1
    · rw [if_pos c, if_pos c]; exact ih _ _ (by omega)
    · rw [if_neg c, if_neg c]; exact ih _ _ (by omega)
theorem kr_count {N B : Nat} {σ : kx_S} {μ : km_S} (what : Int32) (h : kr N B 2 σ μ) : kr_ri N B (xf_count σ what) (mf_count μ what) := by
  obtain ⟨e1, e2⟩ := kr_count_L what h 8 0 0 rfl
  rw [xf_count, mf_count, e1, mf_count_L4]
  by_cases c0 : what = 0
  · subst c0; rw [if_pos rfl, if_pos rfl]; exact ⟨(h.2.2.1 0 (by decide)).1, h⟩
  · rw [if_neg c0, if_neg c0]
    by_cases c1 : what = 1
    · subst c1; rw [if_pos rfl, if_pos rfl]; exact ⟨(h.2.2.1 1 (by decide)).1, h⟩
    · rw [if_neg c1, if_neg c1]
      by_cases c2 : what = 2
      · subst c2; rw [if_pos rfl, if_pos rfl]
        obtain ⟨j, _, j1, j2, _⟩ := h.2.2.2.1 0 (by decide)
        exact ⟨j1.trans j2.symm, h⟩
      · rw [if_neg c2, if_neg c2]
        by_cases c3 : what = 3
        · subst c3; rw [if_pos rfl, if_pos rfl]
          obtain ⟨j, _, j1, j2, _⟩ := h.2.2.2.1 1 (by decide)
          exact ⟨j1.trans j2.symm, h⟩
        · rw [if_neg c3, if_neg c3]
          by_cases c4 : what = 4
          · rw [if_pos c4, if_pos c4]
            obtain ⟨T, _, t1, t2⟩ := h.1.2.2.1
            exact ⟨t1.trans t2.symm, h⟩
          · rw [if_neg c4, if_neg c4]
            by_cases c5 : what = 5
            · rw [if_pos c5, if_pos c5, xf_readyThreads, kk_b]
              exact ⟨rfl, by rw [e2]; exact h⟩
            · rw [if_neg c5, if_neg c5]; exact ⟨rfl, h⟩
