/-! rows for the law: two worlds side by side -/
section KL
variable {p : Program} {l : Launch} {e : Env} {R : Room} {s : State} {m : MethodId} {args : Array Value} {below : List Frame} {meth : Method} {c : Code} {H : Heap} {locs : List Loc} {Q : State → Prop}
variable {Sg : Type} {w : Sg → va_W} {w2 : va_W} {D : va_G} {cl : List vw_C} {tys : List (ClassId × FieldType)} {A0 A1 : Nat → Prop} {H0 : Heap}
variable {y : MethodName} {bytes cc : ByteArray} {maxL nL n index : Nat} {ret : Option FieldType} {ws : List Cond} {rm : Room} {Ts : List Cond} {own C : String} {b : Addr} {As rest st0 : List Value} {pc : Nat} {ls : Array Slot} {S : Sg} {cells slots : Nat}
theorem kk_ci2 {post : Int32 → Sg → Prop} (F : CallFix p m c cc nL s args Ts own) (hM : Met l y ws rm (kk_Pc D cl tys (w S) (.ref b :: As)) (va_Qi post (kk_B D cl tys w) A1) 0 0 A1) (cw : CallW R s args own C index y bytes maxL ret ws rm 0 0 n) (hrecv : ∃ cellB : Cell, H[b]? = some cellB ∧ cellB.vm.isStatics = false ∧ s.vm.findClass C = some cellB.cls)
    (hP : va_P D cl (w S) H) (hK : va_K D cl tys s) (hP2 : va_P D cl w2 H) (hd : ∀ (k : Nat) (q : Nat × va_E), w2[k]? = some q → ¬ A1 q.1) (hS : va_S A0 H0 H locs) (hA : ∀ q, A1 q → A0 q) (hn : As.length = n) (hsize : ls.size = nL) (hstack : st0 = As.reverse ++ .ref b :: rest) (hW : (rest.map fun v => v.category).sum ≤ 8) (hdg : decode cc pc = .ok (.invokevirtual index, 3)) (hf : cells ≤ R.cells ∧ slots ≤ R.slots)
    (kk : ∀ (r : Int32) (u : Sg) (H1 : Heap) (locs1 : List Loc), post r u → va_P D cl (w u) H1 → va_P D cl w2 H1 → va_S A0 H0 H1 locs1 → W p l e R s m args below meth c H1 locs1 cells slots Q (F0 m (pc + 3) ls (.int r :: rest))) : W p l e R s m args below meth c H locs cells slots Q (F0 m pc ls st0) :=
  va_calli (va_runV F hM cw ⟨kk_blind, hrecv, kk_pre hP hK⟩ rfl hn hsize hstack (lv_room hW) hdg hf) hS (fun q _ h => hA q h) hA (fun r u t H1 locs1 ht hvm hp hB _ hk hS1 => kk r u H1 locs1 hp (by rw [← ht]; exact hB.1) (hP2.kept (fun k q hq => hk q.1 (hP2 k q hq).lt (hd k q hq))) hS1)
theorem kk_cl2 {post : Int64 → Sg → Prop} (F : CallFix p m c cc nL s args Ts own) (hM : Met l y ws rm (kk_Pc D cl tys (w S) (.ref b :: As)) (va_Ql post (kk_B D cl tys w) A1) 0 0 A1) (cw : CallW R s args own C index y bytes maxL ret ws rm 0 0 n) (hrecv : ∃ cellB : Cell, H[b]? = some cellB ∧ cellB.vm.isStatics = false ∧ s.vm.findClass C = some cellB.cls)
    (hP : va_P D cl (w S) H) (hK : va_K D cl tys s) (hP2 : va_P D cl w2 H) (hd : ∀ (k : Nat) (q : Nat × va_E), w2[k]? = some q → ¬ A1 q.1) (hS : va_S A0 H0 H locs) (hA : ∀ q, A1 q → A0 q) (hn : As.length = n) (hsize : ls.size = nL) (hstack : st0 = As.reverse ++ .ref b :: rest) (hW : (rest.map fun v => v.category).sum ≤ 8) (hdg : decode cc pc = .ok (.invokevirtual index, 3)) (hf : cells ≤ R.cells ∧ slots ≤ R.slots)
    (kk : ∀ (r : Int64) (u : Sg) (H1 : Heap) (locs1 : List Loc), post r u → va_P D cl (w u) H1 → va_P D cl w2 H1 → va_S A0 H0 H1 locs1 → W p l e R s m args below meth c H1 locs1 cells slots Q (F0 m (pc + 3) ls (.long r :: rest))) : W p l e R s m args below meth c H locs cells slots Q (F0 m pc ls st0) :=
  va_calll (va_runV F hM cw ⟨kk_blind, hrecv, kk_pre hP hK⟩ rfl hn hsize hstack (lv_room hW) hdg hf) hS (fun q _ h => hA q h) hA (fun r u t H1 locs1 ht hvm hp hB _ hk hS1 => kk r u H1 locs1 hp (by rw [← ht]; exact hB.1) (hP2.kept (fun k q hq => hk q.1 (hP2 k q hq).lt (hd k q hq))) hS1)
end KL
theorem kl_g {v : Cond} (hv : v ∈ kn_T) : v ∈ lw_tbl ∧ ((v.onTables && v.keeps) = true ∨ ∃ ty, v = .arrayClass ty) := ⟨(List.mem_filter.mp hv).1, (kn_1 hv).2⟩
theorem kl_I {c1 : Cond} (h1 : c1 ∈ kn_T) : GoodIn lw_tbl (c1 :: kn_T) := fun w hw => by
  rcases List.mem_cons.mp hw with rfl | h
  · exact kl_g h1
  · exact kl_g h
theorem kl_V {c1 : Cond} {own C : String} {idx : Nat} {y : MethodName} (h1 : Cond.methodLink own idx y ∈ kn_T) (h2 : Cond.instanceMethod y ∈ kn_T) (h3 : Cond.selects C y y ∈ kn_T) (h4 : Cond.initialized C ∈ kn_T) (h5 : c1 ∈ kn_T) : GoodIn lw_tbl (wsV own idx C y (c1 :: kn_T)) := fun w hw => by
  rcases List.mem_append.mp hw with h | h
  · simp only [List.mem_cons, List.not_mem_nil, or_false] at h
    rcases h with rfl | rfl | rfl | rfl
    · exact kl_g h1
    · exact kl_g h2
    · exact kl_g h3
    · exact kl_g h4
  · exact kl_I h5 w h
theorem kl_S {c1 : Cond} {own : String} {idx : Nat} {y : MethodName} (h1 : Cond.methodLink own idx y ∈ kn_T) (h2 : Cond.static y ∈ kn_T) (h4 : Cond.initialized own ∈ kn_T) (h5 : c1 ∈ kn_T) : GoodIn lw_tbl (wsS own idx y (c1 :: kn_T)) := fun w hw => by
  rcases List.mem_append.mp hw with h | h
  · simp only [List.mem_cons, List.not_mem_nil, or_false] at h
    rcases h with rfl | rfl | rfl
    · exact kl_g h1
    · exact kl_g h2
    · exact kl_g h4
  · exact kl_I h5 w h
theorem gl_21 : GoodIn lw_tbl (wsV R_law 21 R_X y_X_spawn ws_X_spawn) := kl_V wd_129 wd_130 wd_131 wd_1 wd_132
theorem gl_25 : GoodIn lw_tbl (wsV R_law 25 R_M y_M_spawn ws_M_spawn) := kl_V wd_410 wd_411 wd_412 wd_5 wd_413
theorem gl_26 : GoodIn lw_tbl (wsV R_law 26 R_X y_X_priority ws_X_priority) := kl_V wd_145 wd_146 wd_147 wd_1 wd_148
theorem gl_30 : GoodIn lw_tbl (wsV R_law 30 R_M y_M_priority ws_M_priority) := kl_V wd_422 wd_423 wd_424 wd_5 wd_425
theorem gl_31 : GoodIn lw_tbl (wsV R_law 31 R_X y_X_pass ws_X_pass) := kl_V wd_152 wd_153 wd_154 wd_1 wd_155
theorem gl_35 : GoodIn lw_tbl (wsV R_law 35 R_M y_M_pass ws_M_pass) := kl_V wd_430 wd_431 wd_432 wd_5 wd_433
theorem gl_36 : GoodIn lw_tbl (wsV R_law 36 R_X y_X_lock ws_X_lock) := kl_V wd_184 wd_185 wd_186 wd_1 wd_187
theorem gl_40 : GoodIn lw_tbl (wsV R_law 40 R_M y_M_lock ws_M_lock) := kl_V wd_435 wd_436 wd_437 wd_5 wd_438
theorem gl_41 : GoodIn lw_tbl (wsV R_law 41 R_X y_X_unlock ws_X_unlock) := kl_V wd_200 wd_201 wd_202 wd_1 wd_203
theorem gl_44 : GoodIn lw_tbl (wsV R_law 44 R_M y_M_unlock ws_M_unlock) := kl_V wd_443 wd_444 wd_445 wd_5 wd_446
theorem gl_45 : GoodIn lw_tbl (wsV R_law 45 R_X y_X_await ws_X_await) := kl_V wd_212 wd_213 wd_214 wd_1 wd_215
theorem gl_49 : GoodIn lw_tbl (wsV R_law 49 R_M y_M_await ws_M_await) := kl_V wd_455 wd_456 wd_457 wd_5 wd_458
theorem gl_50 : GoodIn lw_tbl (wsV R_law 50 R_X y_X_signal ws_X_signal) := kl_V wd_223 wd_224 wd_225 wd_1 wd_226
theorem gl_53 : GoodIn lw_tbl (wsV R_law 53 R_M y_M_signal ws_M_signal) := kl_V wd_459 wd_460 wd_461 wd_5 wd_462
theorem gl_54 : GoodIn lw_tbl (wsV R_law 54 R_X y_X_down ws_X_down) := kl_V wd_231 wd_232 wd_233 wd_1 wd_234
theorem gl_57 : GoodIn lw_tbl (wsV R_law 57 R_M y_M_down ws_M_down) := kl_V wd_467 wd_468 wd_469 wd_5 wd_470
theorem gl_58 : GoodIn lw_tbl (wsV R_law 58 R_X y_X_post ws_X_post) := kl_V wd_235 wd_236 wd_237 wd_1 wd_238
theorem gl_61 : GoodIn lw_tbl (wsV R_law 61 R_M y_M_post ws_M_post) := kl_V wd_471 wd_472 wd_473 wd_5 wd_474
theorem gl_62 : GoodIn lw_tbl (wsV R_law 62 R_X y_X_send ws_X_send) := kl_V wd_239 wd_240 wd_241 wd_1 wd_242
theorem gl_65 : GoodIn lw_tbl (wsV R_law 65 R_M y_M_send ws_M_send) := kl_V wd_475 wd_476 wd_477 wd_5 wd_478
theorem gl_66 : GoodIn lw_tbl (wsV R_law 66 R_X y_X_receive ws_X_receive) := kl_V wd_256 wd_257 wd_258 wd_1 wd_259
theorem gl_69 : GoodIn lw_tbl (wsV R_law 69 R_M y_M_receive ws_M_receive) := kl_V wd_483 wd_484 wd_485 wd_5 wd_486
theorem gl_70 : GoodIn lw_tbl (wsV R_law 70 R_X y_X_sleep ws_X_sleep) := kl_V wd_269 wd_270 wd_271 wd_1 wd_272
theorem gl_73 : GoodIn lw_tbl (wsV R_law 73 R_M y_M_sleep ws_M_sleep) := kl_V wd_487 wd_488 wd_489 wd_5 wd_490
theorem gl_74 : GoodIn lw_tbl (wsV R_law 74 R_X y_X_join ws_X_join) := kl_V wd_273 wd_274 wd_275 wd_1 wd_276
theorem gl_77 : GoodIn lw_tbl (wsV R_law 77 R_M y_M_join ws_M_join) := kl_V wd_491 wd_492 wd_493 wd_5 wd_494
theorem gl_78 : GoodIn lw_tbl (wsV R_law 78 R_X y_X_exit ws_X_exit) := kl_V wd_277 wd_278 wd_279 wd_1 wd_280
theorem gl_81 : GoodIn lw_tbl (wsV R_law 81 R_M y_M_exit ws_M_exit) := kl_V wd_495 wd_496 wd_497 wd_5 wd_498
theorem gl_82 : GoodIn lw_tbl (wsV R_law 82 R_X y_X_tick ws_X_tick) := kl_V wd_285 wd_286 wd_287 wd_1 wd_288
theorem gl_85 : GoodIn lw_tbl (wsV R_law 85 R_M y_M_tick ws_M_tick) := kl_V wd_499 wd_500 wd_501 wd_5 wd_502
theorem gl_86 : GoodIn lw_tbl (wsV R_law 86 R_X y_X_running ws_X_running) := kl_V wd_305 wd_302 wd_303 wd_1 wd_304
theorem gl_89 : GoodIn lw_tbl (wsV R_law 89 R_M y_M_running ws_M_running) := kl_V wd_402 wd_403 wd_404 wd_5 wd_405
theorem gl_90 : GoodIn lw_tbl (wsV R_law 90 R_X y_X_tell ws_X_tell) := kl_V wd_306 wd_307 wd_308 wd_1 wd_309
theorem gl_94 : GoodIn lw_tbl (wsV R_law 94 R_M y_M_tell ws_M_tell) := kl_V wd_507 wd_508 wd_509 wd_5 wd_510
theorem gl_95 : GoodIn lw_tbl (wsV R_law 95 R_X y_X_owner ws_X_owner) := kl_V wd_310 wd_311 wd_312 wd_1 wd_313
theorem gl_98 : GoodIn lw_tbl (wsV R_law 98 R_M y_M_owner ws_M_owner) := kl_V wd_512 wd_513 wd_514 wd_5 wd_515
theorem gl_99 : GoodIn lw_tbl (wsV R_law 99 R_X y_X_count ws_X_count) := kl_V wd_314 wd_315 wd_316 wd_1 wd_317
theorem gl_102 : GoodIn lw_tbl (wsV R_law 102 R_M y_M_count ws_M_count) := kl_V wd_516 wd_517 wd_518 wd_5 wd_519
theorem gl_cell : GoodIn lw_tbl (wsS R_law 9 y_L_cell ws_L_cell) := kl_S wd_322 wd_323 wd_0 wd_324
def kl_cellv (L : Nat) (xs : Nat → Int32) (k : Int32) : Int32 := if nI L ≤ k then 0 else xs k.toNatClampNeg
set_option maxHeartbeats 4000000 in
set_option maxRecDepth 100000 in
theorem lc_cell (l : Launch) (b L : Nat) (xs : Nat → Int32) (k : Int32) (hL : L ≤ 2050) (hk : ¬ k < 0) : Met l y_L_cell ws_L_cell ({ frames := 0, cells := 0, slots := 0, locals := 0 }) (va_Pc [.ref b, .int k] (fun U => va_X b L xs U U.heap)) (va_Qi (fun r (_ : Unit) => r = kl_cellv L xs k) (fun _ _ => True) (fun _ => False)) 0 0 (fun _ => False) := by
  refine Met.ofW (cc := b_L_cell) (maxL := 2) (ret := (some .int)) (by decide) rfl ?_
  intro p e s m args below meth c s₁ B hml hv
  obtain ⟨rfl, hX⟩ := hv
  have hx := B.exec
  have hb := B.bytes
  have hr := B.returns
  have hlocks := B.notSynchronized
  have hbl : b < s.heap.size := by
    obtain ⟨scr, h1, -⟩ := hX
    exact (Array.getElem?_eq_some_iff.mp h1).1
  have hbA : ¬ (fun _ : Nat => False) b := fun h => h
  have hS : va_S (fun _ => False) s.heap s.heap [] := va_S.rf
  generalize hf : kl_cellv L xs k = out
  have hl := lv_entry ([.ref b, .int k]) (n := 2) (Nat.le_of_ble_eq_true rfl)
  rw [lg_entry_eq]
  generalize (lg_sl ([.ref b, .int k]) ++ List.replicate (2 - (lg_sl ([.ref b, .int k])).length) Slot.unset).toArray = ls at hl ⊢
  have hl : lv_has ls 2 [(0, .ref b), (1, .int k)] := hl
  rw [kl_cellv] at hf
  refine lv_iload_n hx hb dL_cell_0 rfl (lv_at hl 1 rfl) ?_
  refine lv_aload_n hx hb dL_cell_1 rfl (lv_at hl 0 rfl) ?_
  refine va_slen hx hb hX hbl hbA hS dL_cell_2 ?_
  refine lv_icmp_ge (tgt := 12) hx hb dL_cell_3 (by decide) (fun c_3 => ?_) (fun c_3 => ?_)
  · rw [if_pos (show nI L ≤ k from c_3)] at hf
    refine lv_iconst (v := 0) hx hb dL_cell_12 (by decide) ?_
    exact kk_pret hx hb hr hlocks rfl hf dL_cell_13
  · rw [if_neg (show ¬ nI L ≤ k from c_3)] at hf
    obtain ⟨j, hj, rfl⟩ := nI_of hk
    have hjl : j < L := by
      rcases Nat.lt_or_ge j L with q | q
      · exact q
      · exact absurd (nI_le q (by omega)) c_3
    refine lv_aload_n hx hb dL_cell_6 rfl (lv_at hl 0 rfl) ?_
    refine lv_iload_n hx hb dL_cell_7 rfl (lv_at hl 1 rfl) ?_
    refine va_sld hx hb hX hbl hbA hS (vp_in_nI hjl (by omega)) dL_cell_8 ?_
    refine lv_goto (tgt := 13) hx hb dL_cell_9 (by decide) ?_
    exact kk_pret hx hb hr hlocks rfl hf dL_cell_13
section KL2
variable {p : Program} {l : Launch} {e : Env} {R : Room} {s : State} {m : MethodId} {args : Array Value} {below : List Frame} {meth : Method} {c : Code} {H : Heap} {locs : List Loc} {Q : State → Prop}
theorem kl_cell {ws : va_W} {D : va_G} {cl : List vw_C} {A0 : Nat → Prop} {cc : ByteArray} {nL cells slots pc : Nat} {ls : Array Slot} {rest : List Value} {b L : Nat} {xs : Nat → Int32} {k : Int32} (hL : L ≤ 2050) (hk : ¬ k < 0) (F : CallFix p m c cc nL s args lw_tbl R_law) (hR : 1 ≤ R.frames ∧ 21 ≤ R.locals) (hX : va_X b L xs s s.heap) (hbl : b < s.heap.size) (hbA : ¬ A0 b)
    (hP : va_P D cl ws H) (hS : va_S A0 s.heap H locs) (hsize : ls.size = nL) (hW : (rest.map fun v => v.category).sum ≤ 8) (hdg : decode cc pc = .ok (.invokestatic 9, 3)) (hf : cells ≤ R.cells ∧ slots ≤ R.slots)
    (kk : ∀ (H1 : Heap) (locs1 : List Loc), va_P D cl ws H1 → va_S A0 s.heap H1 locs1 → H.size ≤ H1.size → (∀ q : Nat, q < H.size → H1[q]? = H[q]?) → W p l e R s m args below meth c H1 locs1 cells slots Q (F0 m (pc + 3) ls (.int (kl_cellv L xs k) :: rest))) : W p l e R s m args below meth c H locs cells slots Q (F0 m pc ls (.int k :: .ref b :: rest)) :=
  va_calli (va_runS (As := [.ref b, .int k]) F (lc_cell l b L xs k hL hk) (cwS 2 F.2.2.2.2 gl_cell rfl rfl rfl (by decide +kernel) ⟨hR.1, hR.2⟩) ⟨fun a U g mk q => ⟨q.1, q.2.moved (u := U) (U := U.calling g mk a) (Vm.Alike.refl U.vm)⟩, fun U hU hW => ⟨rfl, by
    show va_X b L xs U U.heap
    rw [hU]
    exact (hX.moved hW.alike).kept (hS.2.1 b hbl hbA)⟩⟩ rfl rfl hsize rfl (lv_room hW) hdg hf) hS (fun q _ h => h.elim) (fun q h => h.elim) (fun r u t H1 locs1 ht hvm hp hB hz hk hS1 => by
    subst hp
    exact kk H1 locs1 (hP.kept (fun k q hq => hk q.1 ((hP k q hq).lt) (fun h => h))) hS1 hz (fun q hq => hk q hq (fun h => h)))
end KL2
def kl_sep (ax am : Nat → Nat) : Prop := ∀ i j, i < 19 → j < 20 → ¬ ax i = am j
theorem kl_dm {ax am : Nat → Nat} {cm : Nat → ClassId} {μ : km_S} (h : kl_sep ax am) : ∀ (k : Nat) (q : Nat × va_E), (km_w am cm μ)[k]? = some q → ¬ kx_A ax q.1 := fun k q hq ⟨i, hi, e⟩ => by
  obtain ⟨h1, h2⟩ := km_adr k q hq
  exact h i k hi h1 (by rw [← e, h2])
theorem kl_dx {ax am : Nat → Nat} {cx : Nat → ClassId} {σ : kx_S} (h : kl_sep ax am) : ∀ (k : Nat) (q : Nat × va_E), (kx_w ax cx σ)[k]? = some q → ¬ km_A am q.1 := fun k q hq ⟨j, hj, e⟩ => by
  obtain ⟨h1, h2⟩ := kx_adr k q hq
  exact h k j h1 hj (by rw [← h2, e])
/-- what stays the same over the law's loop -/
def kl_Ctx (p : Program) (s : State) (m : MethodId) (c : Code) (b L : Nat) (xs : Nat → Int32) (dC : Nat → ClassId) (dI : Nat → Nat → Nat) (ax am : Nat → Nat) (cx cm : Nat → ClassId) : Prop :=
  p.tables.exec = Jvm.exec ∧ c.code = code ∧ c.maxLocals = 4 ∧ s.vm.findClass R_law = some m.cls ∧ (∀ w ∈ lw_tbl, w.before #[Value.ref b] s = true) ∧ va_X b L xs s s.heap ∧ b < s.heap.size ∧ (¬ (fun q : Nat => s.heap.size ≤ q) b) ∧ va_K (dC, dI) vwCl (kx_t cx) s ∧ va_K (dC, dI) vwCl (km_t cm) s ∧ kx_inj ax ∧ km_inj am ∧ kl_sep ax am ∧ (∀ q, kx_A ax q → (fun q : Nat => s.heap.size ≤ q) q) ∧ ∀ q, km_A am q → (fun q : Nat => s.heap.size ≤ q) q
