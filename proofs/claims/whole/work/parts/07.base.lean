/-! rows of my own over the kit: calls and ends in a world that is a function of a state -/
section KK
variable {p : Program} {l : Launch} {e : Env} {R : Room} {s : State} {m : MethodId} {args : Array Value} {below : List Frame} {meth : Method} {c : Code} {H : Heap} {locs : List Loc} {Q : State → Prop}
variable {Sg : Type} {w : Sg → va_W} {D : va_G} {cl : List vw_C} {tys : List (ClassId × FieldType)} {A0 A1 : Nat → Prop} {H0 : Heap}
def kk_B (D : va_G) (cl : List vw_C) (tys : List (ClassId × FieldType)) (w : Sg → va_W) (u : Sg) (t : State) : Prop := va_P D cl (w u) t.heap ∧ va_K D cl tys t
def kk_Pc (D : va_G) (cl : List vw_C) (tys : List (ClassId × FieldType)) (ws : va_W) (av : List Value) : Array Value → State → Prop := va_Pc av (fun U => va_P D cl ws U.heap ∧ va_K D cl tys U)
theorem kk_blind {ws : va_W} {av : List Value} : FrameBlind (kk_Pc D cl tys ws av) := fun a U g mk q => by
  obtain ⟨q0, qP, qK⟩ := q
  exact ⟨q0, qP, va_K.moved (u := U) (U := U.calling g mk a) (Vm.Alike.refl U.vm) qK⟩
theorem kk_pre {ws : va_W} {av : List Value} (hP : va_P D cl ws H) (hK : va_K D cl tys s) : ∀ U : State, U.heap = H → s.WarmedH U.vm → kk_Pc D cl tys ws av av.toArray U := fun U hU hW => ⟨rfl, by rw [hU]; exact hP, va_K.moved hW.alike hK⟩
variable {y : MethodName} {bytes cc : ByteArray} {maxL nL n index : Nat} {ret : Option FieldType} {ws : List Cond} {rm : Room} {Ts : List Cond} {own C : String} {b : Addr} {As rest st0 : List Value} {pc : Nat} {ls : Array Slot} {S : Sg} {cells slots : Nat}
theorem kk_ci {post : Int32 → Sg → Prop} (F : CallFix p m c cc nL s args Ts own) (hM : Met l y ws rm (kk_Pc D cl tys (w S) (.ref b :: As)) (va_Qi post (kk_B D cl tys w) A1) 0 0 A1) (cw : CallW R s args own C index y bytes maxL ret ws rm 0 0 n) (hrecv : ∃ cellB : Cell, H[b]? = some cellB ∧ cellB.vm.isStatics = false ∧ s.vm.findClass C = some cellB.cls)
    (hP : va_P D cl (w S) H) (hK : va_K D cl tys s) (hS : va_S A0 H0 H locs) (hA : ∀ q, A1 q → A0 q) (hn : As.length = n) (hsize : ls.size = nL) (hstack : st0 = As.reverse ++ .ref b :: rest) (hW : (rest.map fun v => v.category).sum ≤ 8) (hdg : decode cc pc = .ok (.invokevirtual index, 3)) (hf : cells ≤ R.cells ∧ slots ≤ R.slots)
    (kk : ∀ (r : Int32) (u : Sg) (H1 : Heap) (locs1 : List Loc), post r u → va_P D cl (w u) H1 → va_S A0 H0 H1 locs1 → W p l e R s m args below meth c H1 locs1 cells slots Q (F0 m (pc + 3) ls (.int r :: rest))) : W p l e R s m args below meth c H locs cells slots Q (F0 m pc ls st0) :=
  va_calli (va_runV F hM cw ⟨kk_blind, hrecv, kk_pre hP hK⟩ rfl hn hsize hstack (lv_room hW) hdg hf) hS (fun q _ h => hA q h) hA (fun r u t H1 locs1 ht hvm hp hB _ _ hS1 => kk r u H1 locs1 hp (by rw [← ht]; exact hB.1) hS1)
theorem kk_cl {post : Int64 → Sg → Prop} (F : CallFix p m c cc nL s args Ts own) (hM : Met l y ws rm (kk_Pc D cl tys (w S) (.ref b :: As)) (va_Ql post (kk_B D cl tys w) A1) 0 0 A1) (cw : CallW R s args own C index y bytes maxL ret ws rm 0 0 n) (hrecv : ∃ cellB : Cell, H[b]? = some cellB ∧ cellB.vm.isStatics = false ∧ s.vm.findClass C = some cellB.cls)
    (hP : va_P D cl (w S) H) (hK : va_K D cl tys s) (hS : va_S A0 H0 H locs) (hA : ∀ q, A1 q → A0 q) (hn : As.length = n) (hsize : ls.size = nL) (hstack : st0 = As.reverse ++ .ref b :: rest) (hW : (rest.map fun v => v.category).sum ≤ 8) (hdg : decode cc pc = .ok (.invokevirtual index, 3)) (hf : cells ≤ R.cells ∧ slots ≤ R.slots)
    (kk : ∀ (r : Int64) (u : Sg) (H1 : Heap) (locs1 : List Loc), post r u → va_P D cl (w u) H1 → va_S A0 H0 H1 locs1 → W p l e R s m args below meth c H1 locs1 cells slots Q (F0 m (pc + 3) ls (.long r :: rest))) : W p l e R s m args below meth c H locs cells slots Q (F0 m pc ls st0) :=
  va_calll (va_runV F hM cw ⟨kk_blind, hrecv, kk_pre hP hK⟩ rfl hn hsize hstack (lv_room hW) hdg hf) hS (fun q _ h => hA q h) hA (fun r u t H1 locs1 ht hvm hp hB _ _ hS1 => kk r u H1 locs1 hp (by rw [← ht]; exact hB.1) hS1)
theorem kk_cv {post : Sg → Prop} (F : CallFix p m c cc nL s args Ts own) (hM : Met l y ws rm (kk_Pc D cl tys (w S) (.ref b :: As)) (va_Qv post (kk_B D cl tys w) A1) 0 0 A1) (cw : CallW R s args own C index y bytes maxL ret ws rm 0 0 n) (hrecv : ∃ cellB : Cell, H[b]? = some cellB ∧ cellB.vm.isStatics = false ∧ s.vm.findClass C = some cellB.cls)
    (hP : va_P D cl (w S) H) (hK : va_K D cl tys s) (hS : va_S A0 H0 H locs) (hA : ∀ q, A1 q → A0 q) (hn : As.length = n) (hsize : ls.size = nL) (hstack : st0 = As.reverse ++ .ref b :: rest) (hW : (rest.map fun v => v.category).sum ≤ 8) (hdg : decode cc pc = .ok (.invokevirtual index, 3)) (hf : cells ≤ R.cells ∧ slots ≤ R.slots)
    (kk : ∀ (u : Sg) (H1 : Heap) (locs1 : List Loc), post u → va_P D cl (w u) H1 → va_S A0 H0 H1 locs1 → W p l e R s m args below meth c H1 locs1 cells slots Q (F0 m (pc + 3) ls rest)) : W p l e R s m args below meth c H locs cells slots Q (F0 m pc ls st0) :=
  va_callv (va_runV F hM cw ⟨kk_blind, hrecv, kk_pre hP hK⟩ rfl hn hsize hstack (lv_room hW) hdg hf) hS (fun q _ h => hA q h) hA (fun u t H1 locs1 ht hvm hp hB _ _ hS1 => kk u H1 locs1 hp (by rw [← ht]; exact hB.1) hS1)
/-- an answer that is one of a row of objects, or null -/
theorem kk_co {ad : Nat → Nat} {post : Option Nat → Sg → Prop} (F : CallFix p m c cc nL s args Ts own) (hM : Met l y ws rm (kk_Pc D cl tys (w S) (.ref b :: As)) (va_Qe ad post (kk_B D cl tys w) A1) 0 0 A1) (cw : CallW R s args own C index y bytes maxL ret ws rm 0 0 n) (hrecv : ∃ cellB : Cell, H[b]? = some cellB ∧ cellB.vm.isStatics = false ∧ s.vm.findClass C = some cellB.cls)
    (hP : va_P D cl (w S) H) (hK : va_K D cl tys s) (hS : va_S A0 H0 H locs) (hA : ∀ q, A1 q → A0 q) (hn : As.length = n) (hsize : ls.size = nL) (hstack : st0 = As.reverse ++ .ref b :: rest) (hW : (rest.map fun v => v.category).sum ≤ 8) (hdg : decode cc pc = .ok (.invokevirtual index, 3)) (hf : cells ≤ R.cells ∧ slots ≤ R.slots)
    (kn : ∀ (u : Sg) (H1 : Heap) (locs1 : List Loc), post none u → va_P D cl (w u) H1 → va_S A0 H0 H1 locs1 → W p l e R s m args below meth c H1 locs1 cells slots Q (F0 m (pc + 3) ls (.null :: rest)))
    (ks : ∀ (t : Nat) (u : Sg) (H1 : Heap) (locs1 : List Loc), post (some t) u → va_P D cl (w u) H1 → va_S A0 H0 H1 locs1 → W p l e R s m args below meth c H1 locs1 cells slots Q (F0 m (pc + 3) ls (.ref (ad t) :: rest))) : W p l e R s m args below meth c H locs cells slots Q (F0 m pc ls st0) :=
  va_calle (va_runV F hM cw ⟨kk_blind, hrecv, kk_pre hP hK⟩ rfl hn hsize hstack (lv_room hW) hdg hf) hS (fun q _ h => hA q h) hA (fun r u t H1 locs1 ht hvm hp hB _ _ hS1 => by
    cases r with
    | none => exact kn u H1 locs1 hp (by rw [← ht]; exact hB.1) hS1
    | some a => exact ks a u H1 locs1 hp (by rw [← ht]; exact hB.1) hS1)
/-- a static method that has no world: an int out of ints -/
def kk_P0 (av : List Value) : Array Value → State → Prop := va_Pc av (fun _ => True)
theorem kk_cs {r0 : Int32} (F : CallFix p m c cc nL s args Ts own) (hM : Met l y ws rm (kk_P0 As) (va_Qi (fun r (_ : Unit) => r = r0) (fun _ _ => True) (fun _ => False)) 0 0 (fun _ => False)) (cw : CallB R s args own index y bytes maxL ret ws rm 0 0 n ∧ (Cond.static y).before args s = true)
    (hP : va_P D cl (w S) H) (hS : va_S A0 H0 H locs) (hn : As.length = n) (hsize : ls.size = nL) (hstack : st0 = As.reverse ++ rest) (hW : (rest.map fun v => v.category).sum ≤ 8) (hdg : decode cc pc = .ok (.invokestatic index, 3)) (hf : cells ≤ R.cells ∧ slots ≤ R.slots)
    (kk : ∀ (H1 : Heap) (locs1 : List Loc), va_P D cl (w S) H1 → va_S A0 H0 H1 locs1 → W p l e R s m args below meth c H1 locs1 cells slots Q (F0 m (pc + 3) ls (.int r0 :: rest))) : W p l e R s m args below meth c H locs cells slots Q (F0 m pc ls st0) :=
  va_calli (va_runS F hM cw ⟨fun _ _ _ _ q => q, fun U hU hW => ⟨rfl, trivial⟩⟩ rfl hn hsize hstack (lv_room hW) hdg hf) hS (fun q _ h => h.elim) (fun q h => h.elim) (fun r u t H1 locs1 ht hvm hp hB hz hk hS1 => by
    subst hp
    exact kk H1 locs1 (hP.kept (fun k q hq => hk q.1 ((hP k q hq).lt) (fun h => h))) hS1)
theorem kk_cp {r0 : Int32} (F : CallFix p m c cc nL s args Ts own) (hM : Met l y ws rm (kk_P0 (.ref b :: As)) (va_Qi (fun r (_ : Unit) => r = r0) (fun _ _ => True) (fun _ => False)) 0 0 (fun _ => False)) (cw : CallW R s args own C index y bytes maxL ret ws rm 0 0 n) (hrecv : ∃ cellB : Cell, H[b]? = some cellB ∧ cellB.vm.isStatics = false ∧ s.vm.findClass C = some cellB.cls)
    (hP : va_P D cl (w S) H) (hS : va_S A0 H0 H locs) (hn : As.length = n) (hsize : ls.size = nL) (hstack : st0 = As.reverse ++ .ref b :: rest) (hW : (rest.map fun v => v.category).sum ≤ 8) (hdg : decode cc pc = .ok (.invokevirtual index, 3)) (hf : cells ≤ R.cells ∧ slots ≤ R.slots)
    (kk : ∀ (H1 : Heap) (locs1 : List Loc), va_P D cl (w S) H1 → va_S A0 H0 H1 locs1 → W p l e R s m args below meth c H1 locs1 cells slots Q (F0 m (pc + 3) ls (.int r0 :: rest))) : W p l e R s m args below meth c H locs cells slots Q (F0 m pc ls st0) :=
  va_calli (va_runV F hM cw ⟨fun _ _ _ _ q => q, hrecv, fun U hU hW => ⟨rfl, trivial⟩⟩ rfl hn hsize hstack (lv_room hW) hdg hf) hS (fun q _ h => h.elim) (fun q h => h.elim) (fun r u t H1 locs1 ht hvm hp hB hz hk hS1 => by
    subst hp
    exact kk H1 locs1 (hP.kept (fun k q hq => hk q.1 ((hP k q hq).lt) (fun h => h))) hS1)
theorem kk_iret {post : Int32 → Sg → Prop} {v : Int32} (hx : p.tables.exec = Jvm.exec) (hb : c.code = cc) (hr : meth.sig.returnType = some .int) (hlocks : meth.locks = false) (hP : va_P D cl (w S) H) (hK : va_K D cl tys s) (hS : va_S A1 s.heap H locs) (hpost : post v S) (hdg : decode cc pc = .ok (.ireturn, 1)) : W p l e R s m args below meth c H locs cells slots (MQ below (va_Qi post (kk_B D cl tys w) A1) args s cells slots A1) (F0 m pc ls [.int v]) :=
  W.iret hx hb hr (fun t ht hW => ⟨⟨v, S, rfl, hpost, by rw [ht]; exact hP, va_K.moved hW.alike hK⟩, hS.F ht⟩) hS.2.2 hdg hlocks
theorem kk_zret {post : Int32 → Sg → Prop} {v : Int32} (hx : p.tables.exec = Jvm.exec) (hb : c.code = cc) (hr : meth.sig.returnType = some .boolean) (hlocks : meth.locks = false) (hn : narrow .boolean (.int v) = .int v) (hP : va_P D cl (w S) H) (hK : va_K D cl tys s) (hS : va_S A1 s.heap H locs) (hpost : post v S) (hdg : decode cc pc = .ok (.ireturn, 1)) : W p l e R s m args below meth c H locs cells slots (MQ below (va_Qi post (kk_B D cl tys w) A1) args s cells slots A1) (F0 m pc ls [.int v]) :=
  W.zret hx hb hr hn (fun t ht hW => ⟨⟨v, S, rfl, hpost, by rw [ht]; exact hP, va_K.moved hW.alike hK⟩, hS.F ht⟩) hS.2.2 hdg hlocks
theorem kk_lret {post : Int64 → Sg → Prop} {v : Int64} (hx : p.tables.exec = Jvm.exec) (hb : c.code = cc) (hr : meth.sig.returnType = some .long) (hlocks : meth.locks = false) (hP : va_P D cl (w S) H) (hK : va_K D cl tys s) (hS : va_S A1 s.heap H locs) (hpost : post v S) (hdg : decode cc pc = .ok (.lreturn, 1)) : W p l e R s m args below meth c H locs cells slots (MQ below (va_Ql post (kk_B D cl tys w) A1) args s cells slots A1) (F0 m pc ls [.long v]) :=
  W.lret hx hb hr (fun t ht hW => ⟨⟨v, S, rfl, hpost, by rw [ht]; exact hP, va_K.moved hW.alike hK⟩, hS.F ht⟩) hS.2.2 hdg hlocks
theorem kk_vret {post : Sg → Prop} (hx : p.tables.exec = Jvm.exec) (hb : c.code = cc) (hr : meth.sig.returnType = none) (hlocks : meth.locks = false) (hP : va_P D cl (w S) H) (hK : va_K D cl tys s) (hS : va_S A1 s.heap H locs) (hpost : post S) (hdg : decode cc pc = .ok (.return_, 1)) : W p l e R s m args below meth c H locs cells slots (MQ below (va_Qv post (kk_B D cl tys w) A1) args s cells slots A1) (F0 m pc ls []) :=
  W.vret hx hb hr (fun t ht hW => ⟨⟨S, rfl, hpost, by rw [ht]; exact hP, va_K.moved hW.alike hK⟩, hS.F ht⟩) hS.2.2 hdg hlocks
theorem kk_nret {ad : Nat → Nat} {post : Option Nat → Sg → Prop} {rn : String} (hx : p.tables.exec = Jvm.exec) (hb : c.code = cc) (hr : meth.sig.returnType = some (.object rn)) (hlocks : meth.locks = false) (hP : va_P D cl (w S) H) (hK : va_K D cl tys s) (hS : va_S A1 s.heap H locs) (hpost : post none S) (hdg : decode cc pc = .ok (.areturn, 1)) : W p l e R s m args below meth c H locs cells slots (MQ below (va_Qe ad post (kk_B D cl tys w) A1) args s cells slots A1) (F0 m pc ls [.null]) :=
  W.aret hx hb hr (Or.inl ⟨_, rfl⟩) (Or.inl rfl) (fun t ht hW => ⟨⟨none, S, rfl, hpost, by rw [ht]; exact hP, va_K.moved hW.alike hK⟩, hS.F ht⟩) hS.2.2 hdg hlocks
theorem kk_aret {ad : Nat → Nat} {post : Option Nat → Sg → Prop} {rn : String} {t : Nat} (hx : p.tables.exec = Jvm.exec) (hb : c.code = cc) (hr : meth.sig.returnType = some (.object rn)) (hlocks : meth.locks = false) (hP : va_P D cl (w S) H) (hK : va_K D cl tys s) (hS : va_S A1 s.heap H locs) (hpost : post (some t) S) (hdg : decode cc pc = .ok (.areturn, 1)) : W p l e R s m args below meth c H locs cells slots (MQ below (va_Qe ad post (kk_B D cl tys w) A1) args s cells slots A1) (F0 m pc ls [.ref (ad t)]) :=
  W.aret hx hb hr (Or.inl ⟨_, rfl⟩) (Or.inr ⟨_, rfl⟩) (fun t1 ht hW => ⟨⟨some t, S, rfl, hpost, by rw [ht]; exact hP, va_K.moved hW.alike hK⟩, hS.F ht⟩) hS.2.2 hdg hlocks
theorem kk_pret {r0 : Int32} {v : Int32} {ty : FieldType} (hx : p.tables.exec = Jvm.exec) (hb : c.code = cc) (hr : meth.sig.returnType = some ty) (hlocks : meth.locks = false) (hn : narrow ty (.int v) = .int v) (hv : v = r0) (hdg : decode cc pc = .ok (.ireturn, 1)) : W p l e R s m args below meth c s.heap [] cells slots (MQ below (va_Qi (fun r (_ : Unit) => r = r0) (fun _ _ => True) (fun _ => False)) args s cells slots (fun _ => False)) (F0 m pc ls [.int v]) :=
  W.zret hx hb hr hn (fun t ht hW => ⟨⟨v, (), rfl, hv, trivial⟩, Nat.le_of_eq (by rw [ht]), fun q _ _ => by rw [ht]⟩) (fun q h => by cases h) hdg hlocks
end KK
/-- a pair is taken apart; a value gets a name; a row's member or none -/
def kk_b {α β γ : Type} (p : α × β) (k : α → β → γ) : γ := k p.1 p.2
theorem kk_b_eq {α β γ : Type} {p : α × β} {k : α → β → γ} {a : α} {b : β} (h : p = (a, b)) : kk_b p k = k a b := by rw [h]; rfl
def kk_v {α γ : Type} (x : α) (k : α → γ) : γ := k x
theorem kk_v_eq {α γ : Type} {x : α} {k : α → γ} {a : α} (h : x = a) : kk_v x k = k a := by rw [h]; rfl
def kk_o {γ : Type} (o : Option Nat) (a : γ) (k : Nat → γ) : γ := match o with
  | none => a
  | some t => k t
theorem kk_o_none {γ : Type} {a : γ} {k : Nat → γ} : kk_o none a k = a := rfl
theorem kk_o_some {γ : Type} {a : γ} {k : Nat → γ} {t : Nat} : kk_o (some t) a k = k t := rfl
def kk_rv (ad : Nat → Nat) (o : Option Nat) : Value := match o with
  | none => .null
  | some t => .ref (ad t)
