/-! contracts: how one is begun and ended, how one is used at a call -/
theorem tw_min_s : Cond.static Lib.Math.min.name ∈ TW := tw (i := 299) (by decide +kernel) (by decide)
theorem tw_min_c : Cond.code Lib.Math.min.name Lib.Math.min.code 2 (some .int) ∈ TW := tw (i := 300) (by decide +kernel) (by decide)
theorem tw_min_i : Cond.initialized "java/lang/Math" ∈ TW := tw (i := 17) (by decide +kernel) (by decide)
theorem tw_max_s : Cond.static Lib.Math.max.name ∈ TW := tw (i := 548) (by decide +kernel) (by decide)
theorem tw_max_c : Cond.code Lib.Math.max.name Lib.Math.max.code 2 (some .int) ∈ TW := tw (i := 549) (by decide +kernel) (by decide)
theorem tw_abs_s : Cond.static Lib.Math.abs.name ∈ TW := tw (i := 396) (by decide +kernel) (by decide)
theorem tw_abs_c : Cond.code Lib.Math.abs.name Lib.Math.abs.code 1 (some .int) ∈ TW := tw (i := 397) (by decide +kernel) (by decide)
section MK
variable {l : Launch} {y : MethodName} {cb : ByteArray} {maxL fr lo mc ms n n' : Nat} {ret : Option FieldType} {E : EE} {B : Nat} {av : List Value} {f f' : Nat → va_E}
theorem mkI {r : Int32} {ty : FieldType} {own : String} (how : y.cls = own) (hy : plainName y.cls = true) (hret : ret = some ty) (hnar : narrow ty (.int r) = .int r) (hlen : (lg_sl av).length ≤ maxL)
    (body : ∀ (p : Program) (e : Env) (s : State) (m : MethodId) (args : Array Value) (below : List Frame) (meth : Method) (c : Code) (Q : State → Prop), Cx p s m args c cb maxL own E B →
      (∀ {H : Heap} {locs : List Loc} {pc : Nat} {ls : Array Slot} {v : Int32}, JL E B s n' f' H locs → v = r → decode cb pc = .ok (.ireturn, 1) → W p l e (rmm fr lo mc ms) s m args below meth c H locs mc ms Q (F0 m pc ls [.int v])) →
      ∀ ls : Array Slot, lv_has ls maxL (lv_args 0 av) → JL E B s n f s.heap [] → W p l e (rmm fr lo mc ms) s m args below meth c s.heap [] 0 0 Q (F0 m 0 ls [])) : Ct l y cb maxL ret fr lo mc ms E B av n f (some (.int r)) n' f' := by
  refine Met.ofW (cc := cb) (maxL := maxL) (ret := ret) hy rfl ?_
  intro p e s m args below meth c s₁ B₁ hml hv
  obtain ⟨rfl, hP, hBx, hsz⟩ := hv
  have hts0 := atoms_spec (ws := wsm y cb maxL ret) B₁.pre
  have hlocks := B₁.notSynchronized
  have hX : Cx p s m av.toArray c cb maxL own E B := ⟨B₁.exec, B₁.bytes, hml, by rw [← how]; exact findClass_of_methodNamed B₁.named, fun w hw => hts0 w (List.mem_cons_of_mem _ hw), hBx⟩
  have hl := lv_entry av (n := maxL) hlen
  rw [lg_entry_eq]
  refine body p e s m av.toArray below meth c _ hX ?_ _ hl ⟨hP, va_S.rf, hsz⟩
  intro H locs pc ls v hJ hvr hdg
  subst hvr
  exact W.zret B₁.exec B₁.bytes (B₁.returns.trans hret) hnar (fun t ht hW => ⟨⟨rfl, hJ.BP hBx ht hW⟩, hJ.2.1.F ht⟩) hJ.2.1.2.2 hdg hlocks
theorem mkV {own : String} (how : y.cls = own) (hy : plainName y.cls = true) (hret : ret = none) (hlen : (lg_sl av).length ≤ maxL)
    (body : ∀ (p : Program) (e : Env) (s : State) (m : MethodId) (args : Array Value) (below : List Frame) (meth : Method) (c : Code) (Q : State → Prop), Cx p s m args c cb maxL own E B → meth.name = y.name →
      (∀ {H : Heap} {locs : List Loc} {pc : Nat} {ls : Array Slot}, JL E B s n' f' H locs → decode cb pc = .ok (.return_, 1) → W p l e (rmm fr lo mc ms) s m args below meth c H locs mc ms Q (F0 m pc ls [])) →
      ∀ ls : Array Slot, lv_has ls maxL (lv_args 0 av) → JL E B s n f s.heap [] → W p l e (rmm fr lo mc ms) s m args below meth c s.heap [] 0 0 Q (F0 m 0 ls [])) : Ct l y cb maxL ret fr lo mc ms E B av n f none n' f' := by
  refine Met.ofW (cc := cb) (maxL := maxL) (ret := ret) hy rfl ?_
  intro p e s m args below meth c s₁ B₁ hml hv
  obtain ⟨rfl, hP, hBx, hsz⟩ := hv
  have hts0 := atoms_spec (ws := wsm y cb maxL ret) B₁.pre
  have hlocks := B₁.notSynchronized
  have hX : Cx p s m av.toArray c cb maxL own E B := ⟨B₁.exec, B₁.bytes, hml, by rw [← how]; exact findClass_of_methodNamed B₁.named, fun w hw => hts0 w (List.mem_cons_of_mem _ hw), hBx⟩
  have hl := lv_entry av (n := maxL) hlen
  rw [lg_entry_eq]
  refine body p e s m av.toArray below meth c _ hX (name_of_methodNamed B₁.named B₁.method).1 ?_ _ hl ⟨hP, va_S.rf, hsz⟩
  intro H locs pc ls hJ hdg
  exact W.vret B₁.exec B₁.bytes (B₁.returns.trans hret) (fun t ht hW => ⟨⟨rfl, hJ.BP hBx ht hW⟩, hJ.2.1.F ht⟩) hJ.2.1.2.2 hdg hlocks
theorem mkR {r : Option Nat} {ty : FieldType} {own : String} (how : y.cls = own) (hy : plainName y.cls = true) (hret : ret = some ty) (hty : ∃ C, ty = .object C) (hlen : (lg_sl av).length ≤ maxL)
    (body : ∀ (p : Program) (e : Env) (s : State) (m : MethodId) (args : Array Value) (below : List Frame) (meth : Method) (c : Code) (Q : State → Prop), Cx p s m args c cb maxL own E B →
      (∀ {H : Heap} {locs : List Loc} {pc : Nat} {ls : Array Slot} {v : Value}, JL E B s n' f' H locs → v = va_rf r → decode cb pc = .ok (.areturn, 1) → W p l e (rmm fr lo mc ms) s m args below meth c H locs mc ms Q (F0 m pc ls [v])) →
      ∀ ls : Array Slot, lv_has ls maxL (lv_args 0 av) → JL E B s n f s.heap [] → W p l e (rmm fr lo mc ms) s m args below meth c s.heap [] 0 0 Q (F0 m 0 ls [])) : Ct l y cb maxL ret fr lo mc ms E B av n f (some (va_rf r)) n' f' := by
  refine Met.ofW (cc := cb) (maxL := maxL) (ret := ret) hy rfl ?_
  intro p e s m args below meth c s₁ B₁ hml hv
  obtain ⟨rfl, hP, hBx, hsz⟩ := hv
  have hts0 := atoms_spec (ws := wsm y cb maxL ret) B₁.pre
  have hlocks := B₁.notSynchronized
  have hX : Cx p s m av.toArray c cb maxL own E B := ⟨B₁.exec, B₁.bytes, hml, by rw [← how]; exact findClass_of_methodNamed B₁.named, fun w hw => hts0 w (List.mem_cons_of_mem _ hw), hBx⟩
  have hl := lv_entry av (n := maxL) hlen
  rw [lg_entry_eq]
  refine body p e s m av.toArray below meth c _ hX ?_ _ hl ⟨hP, va_S.rf, hsz⟩
  intro H locs pc ls v hJ hvr hdg
  subst hvr
  obtain ⟨C, hC⟩ := hty
  exact W.aret B₁.exec B₁.bytes (B₁.returns.trans hret) (Or.inl ⟨C, hC⟩) (by cases r with | none => exact Or.inl rfl | some a => exact Or.inr ⟨a, rfl⟩) (fun t ht hW => ⟨⟨rfl, hJ.BP hBx ht hW⟩, hJ.2.1.F ht⟩) hJ.2.1.2.2 hdg hlocks
end MK
section CL
variable {p : Program} {l : Launch} {e : Env} {R : Room} {s : State} {m : MethodId} {args : Array Value} {below : List Frame} {meth : Method} {c : Code} {H : Heap} {locs : List Loc} {cells slots : Nat} {Q : State → Prop}
variable {cc : ByteArray} {nL : Nat} {own : String} {E : EE} {B : Nat} {pc : Nat} {ls : Array Slot} {rest st : List Value} {n n' : Nat} {f f' : Nat → va_E}
variable {y : MethodName} {cb : ByteArray} {maxL fr lo mc ms index : Nat} {ret : Option FieldType} {rv : Option Value} {As : List Value} {o : Nat}
theorem call_go (hr : va_Run p l e R s m args below meth c H locs cells slots mc ms (F0 m pc ls st) rest (fun st oc t => (oc = .returned rv ∧ BP E B n' f' t) ∧ va_F (fB B) st t) (fB B)) (hJ : JL E B s n f H locs)
    (kk : ∀ (H1 : Heap) (locs1 : List Loc), JL E B s n' f' H1 locs1 → W p l e R s m args below meth c H1 locs1 (cells + mc) (slots + ms) Q (F0 m (pc + 3) ls (rv.toList ++ rest))) : W p l e R s m args below meth c H locs cells slots Q (F0 m pc ls st) := by
  intro T hT X
  obtain ⟨v, st₀, t, T', L, h0, X', hL, e1, e2, ⟨⟨hv, hBP⟩, hz, hk⟩, stp⟩ := hr T hT X
  cases hv
  rw [h0] at hz hk
  have hS := hJ.2.1
  obtain ⟨t2, a1, b1⟩ := kk T'.heap (locs ++ L) ⟨by rw [e1]; exact hBP.1, ⟨Nat.le_trans hS.1 (by rw [e1]; exact hz), fun q h1 h2 => by rw [e1, hk q (Nat.lt_of_lt_of_le h1 hS.1) h2]; exact hS.2.1 q h1 h2, fun q hq => by
      rcases List.mem_append.mp hq with h | h
      · exact hS.2.2 q h
      · exact hL q h⟩, by rw [e1]; exact hBP.2.2⟩ T' rfl X'
  exact ⟨t2, stp t2 a1, b1⟩
theorem good_wsV (hlink : Cond.methodLink own index y ∈ TW) (hinst : Cond.instanceMethod y ∈ TW) (hsel : Cond.selects y.cls y y ∈ TW) (hini : Cond.initialized y.cls ∈ TW) (hcode : Cond.code y cb maxL ret ∈ TW) : GoodIn TW (wsV own index y.cls y (wsm y cb maxL ret)) := by
  intro w hw
  unfold wsV at hw
  rcases List.mem_append.mp hw with h | h
  · have hm : w ∈ TW := by
      simp only [List.mem_cons, List.not_mem_nil, or_false] at h
      rcases h with rfl | rfl | rfl | rfl <;> assumption
    exact ⟨hm, good_TW hm⟩
  · exact good_sub hcode w h
theorem rcallV (X : Cx p s m args c cc nL own E B) (hJ : JL E B s n f H locs) (hC : Ct l y cb maxL ret fr lo mc ms E B (.ref (B + o) :: As) n f rv n' f') (hlink : Cond.methodLink own index y ∈ TW) (hinst : Cond.instanceMethod y ∈ TW) (hsel : Cond.selects y.cls y y ∈ TW) (hini : Cond.initialized y.cls ∈ TW) (hcode : Cond.code y cb maxL ret ∈ TW)
    (hd : y.cls ≠ "java/lang/invoke/MethodHandle" ∧ y.cls ≠ "java/lang/invoke/VarHandle" ∧ (parseMethodDescriptor y.desc).map (fun d => d.parameters.length) = some As.length) {ci : Nat} {fs : List Value} {r : vw_C} (hcl : vwCl[ci]? = some r) (hr1 : r.1 = y.cls) (ho : o < n) (hf : f o = .inr (ci, fs)) (hls : ls.size = nL) (hfr : fr + 1 ≤ R.frames ∧ 8 + (maxL + 11) + lo ≤ R.locals) (hcs : cells + mc ≤ R.cells ∧ slots + ms ≤ R.slots) (hst : st = As.reverse ++ .ref (B + o) :: rest) (hW : (rest.map fun v => v.category).sum ≤ 8) (hdg : decode cc pc = .ok (.invokevirtual index, 3))
    (kk : ∀ (H1 : Heap) (locs1 : List Loc), JL E B s n' f' H1 locs1 → W p l e R s m args below meth c H1 locs1 (cells + mc) (slots + ms) Q (F0 m (pc + 3) ls (rv.toList ++ rest))) : W p l e R s m args below meth c H locs cells slots Q (F0 m pc ls st) := by
  have hts := X.2.2.2.2.1
  refine call_go (va_runV (C := y.cls) (As := As) (rest := rest) ⟨X.1, X.2.1, X.2.2.1, X.2.2.2.1, hts⟩ hC (cwV As.length hts (good_wsV hlink hinst hsel hini hcode) rfl rfl rfl ⟨rfl, hd⟩ hfr) ⟨Pc_blind, ?_, fun U hU hWm => ⟨rfl, hJ.BP X.2.2.2.2.2 hU hWm⟩⟩ rfl rfl hls hst (lv_room hW) hdg hcs) hJ kk
  obtain ⟨cell, h1, h2, h3⟩ := va_recv (q0 := o) X.2.2.2.2.2.1 hJ.1 hcl (by rw [wl_at ho, hf])
  exact ⟨cell, h1, h2, by rw [← hr1]; exact h3⟩
theorem rcallS (X : Cx p s m args c cc nL own E B) (hJ : JL E B s n f H locs) (hC : Ct l y cb maxL ret fr lo mc ms E B As n f rv n' f') (hown : y.cls = own) (hlink : Cond.methodLink own index y ∈ TW) (hstat : Cond.static y ∈ TW) (hini : Cond.initialized own ∈ TW) (hcode : Cond.code y cb maxL ret ∈ TW)
    (hd : y.cls ≠ "java/lang/invoke/MethodHandle" ∧ y.cls ≠ "java/lang/invoke/VarHandle" ∧ (parseMethodDescriptor y.desc).map (fun d => d.parameters.length) = some As.length) (hls : ls.size = nL) (hfr : fr + 1 ≤ R.frames ∧ 8 + (maxL + 11) + lo ≤ R.locals) (hcs : cells + mc ≤ R.cells ∧ slots + ms ≤ R.slots) (hst : st = As.reverse ++ rest) (hW : (rest.map fun v => v.category).sum ≤ 8) (hdg : decode cc pc = .ok (.invokestatic index, 3))
    (kk : ∀ (H1 : Heap) (locs1 : List Loc), JL E B s n' f' H1 locs1 → W p l e R s m args below meth c H1 locs1 (cells + mc) (slots + ms) Q (F0 m (pc + 3) ls (rv.toList ++ rest))) : W p l e R s m args below meth c H locs cells slots Q (F0 m pc ls st) := by
  have hts := X.2.2.2.2.1
  have hG : GoodIn TW (wsS own index y (wsm y cb maxL ret)) := by
    intro w hw
    unfold wsS at hw
    rcases List.mem_append.mp hw with h | h
    · have hm : w ∈ TW := by
        simp only [List.mem_cons, List.not_mem_nil, or_false] at h
        rcases h with rfl | rfl | rfl <;> assumption
      exact ⟨hm, good_TW hm⟩
    · exact good_sub hcode w h
  exact call_go (va_runS (As := As) (rest := rest) ⟨X.1, X.2.1, X.2.2.1, X.2.2.2.1, hts⟩ hC (cwS As.length hts hG rfl rfl rfl ⟨hown, hd⟩ hfr) ⟨Pc_blind, fun U hU hWm => ⟨rfl, hJ.BP X.2.2.2.2.2 hU hWm⟩⟩ rfl rfl hls hst (lv_room hW) hdg hcs) hJ kk
theorem rcallSN {host : String} (X : Cx p s m args c cc nL own E B) (hJ : JL E B s n f H locs) (hC : Ct l y cb maxL ret fr lo mc ms E B As n f rv n' f') (hl : va_Nw (.methodLinkNest own index y host) s) (hstat : Cond.static y ∈ TW) (hini : Cond.initialized y.cls ∈ TW) (hcode : Cond.code y cb maxL ret ∈ TW)
    (hd : y.cls ≠ "java/lang/invoke/MethodHandle" ∧ y.cls ≠ "java/lang/invoke/VarHandle" ∧ (parseMethodDescriptor y.desc).map (fun d => d.parameters.length) = some As.length) (hls : ls.size = nL) (hfr : fr + 1 ≤ R.frames ∧ 8 + (maxL + 11) + lo ≤ R.locals) (hcs : cells + mc ≤ R.cells ∧ slots + ms ≤ R.slots) (hst : st = As.reverse ++ rest) (hW : (rest.map fun v => v.category).sum ≤ 8) (hdg : decode cc pc = .ok (.invokestatic index, 3))
    (kk : ∀ (H1 : Heap) (locs1 : List Loc), JL E B s n' f' H1 locs1 → W p l e R s m args below meth c H1 locs1 (cells + mc) (slots + ms) Q (F0 m (pc + 3) ls (rv.toList ++ rest))) : W p l e R s m args below meth c H locs cells slots Q (F0 m pc ls st) := by
  have hts := X.2.2.2.2.1
  exact call_go (va_runSN (As := As) (rest := rest) ⟨X.1, X.2.1, X.2.2.1, X.2.2.2.1, hts⟩ hC ⟨va_cnB As.length hts (good_sub hcode) rfl rfl rfl hl (hts _ hini) hd hfr, hts _ hstat, trivial⟩ ⟨Pc_blind, fun U hU hWm => ⟨rfl, hJ.BP X.2.2.2.2.2 hU hWm⟩⟩ rfl rfl hls hst (lv_room hW) hdg hcs) hJ kk
theorem rcallI (X : Cx p s m args c cc nL own E B) (hJ : JL E B s n f H locs) {b : Nat} (hC : Ct l y cb maxL none fr lo mc ms E B (.ref b :: As) n f none n' f') (hy1 : y.name = "<init>") (hlink : Cond.methodLink own index y ∈ TW) (hinst : Cond.instanceMethod y ∈ TW) (hini : Cond.initialized y.cls ∈ TW) (hcode : Cond.code y cb maxL none ∈ TW)
    (hd : y.cls ≠ "java/lang/invoke/MethodHandle" ∧ y.cls ≠ "java/lang/invoke/VarHandle" ∧ (parseMethodDescriptor y.desc).map (fun d => d.parameters.length) = some As.length) (hls : ls.size = nL) (hfr : fr + 1 ≤ R.frames ∧ 8 + (maxL + 11) + lo ≤ R.locals) (hcs : cells + mc ≤ R.cells ∧ slots + ms ≤ R.slots) (hst : st = As.reverse ++ .ref b :: rest) (hW : (rest.map fun v => v.category).sum ≤ 8) (hdg : decode cc pc = .ok (.invokespecial index, 3))
    (kk : ∀ (H1 : Heap) (locs1 : List Loc), JL E B s n' f' H1 locs1 → W p l e R s m args below meth c H1 locs1 (cells + mc) (slots + ms) Q (F0 m (pc + 3) ls rest)) : W p l e R s m args below meth c H locs cells slots Q (F0 m pc ls st) := by
  have hts := X.2.2.2.2.1
  exact call_go (va_runI (As := As) (rest := rest) ⟨X.1, X.2.1, X.2.2.1, X.2.2.2.1, hts⟩ hC (cwI As.length hts (good_sub hcode) rfl rfl rfl (hts _ hini) (hts _ hlink) (hts _ hinst) hy1 hd hfr) ⟨Pc_blind, fun U hU hWm => ⟨rfl, hJ.BP X.2.2.2.2.2 hU hWm⟩⟩ rfl rfl hls hst (lv_room hW) hdg hcs) hJ kk
theorem rcallIN {host : String} (X : Cx p s m args c cc nL own E B) (hJ : JL E B s n f H locs) {b : Nat} (hC : Ct l y cb maxL none fr lo mc ms E B (.ref b :: As) n f none n' f') (hy1 : y.name = "<init>") (hl : va_Nw (.methodLinkNest own index y host) s) (hinst : Cond.instanceMethod y ∈ TW) (hini : Cond.initialized y.cls ∈ TW) (hcode : Cond.code y cb maxL none ∈ TW)
    (hd : y.cls ≠ "java/lang/invoke/MethodHandle" ∧ y.cls ≠ "java/lang/invoke/VarHandle" ∧ (parseMethodDescriptor y.desc).map (fun d => d.parameters.length) = some As.length) (hls : ls.size = nL) (hfr : fr + 1 ≤ R.frames ∧ 8 + (maxL + 11) + lo ≤ R.locals) (hcs : cells + mc ≤ R.cells ∧ slots + ms ≤ R.slots) (hst : st = As.reverse ++ .ref b :: rest) (hW : (rest.map fun v => v.category).sum ≤ 8) (hdg : decode cc pc = .ok (.invokespecial index, 3))
    (kk : ∀ (H1 : Heap) (locs1 : List Loc), JL E B s n' f' H1 locs1 → W p l e R s m args below meth c H1 locs1 (cells + mc) (slots + ms) Q (F0 m (pc + 3) ls rest)) : W p l e R s m args below meth c H locs cells slots Q (F0 m pc ls st) := by
  have hts := X.2.2.2.2.1
  exact call_go (va_runIN (As := As) (rest := rest) ⟨X.1, X.2.1, X.2.2.1, X.2.2.2.1, hts⟩ hC ⟨va_cnB As.length hts (good_sub hcode) rfl rfl rfl hl (hts _ hini) hd hfr, hy1, hts _ hinst⟩ ⟨Pc_blind, fun U hU hWm => ⟨rfl, hJ.BP X.2.2.2.2.2 hU hWm⟩⟩ rfl rfl hls hst (lv_room hW) hdg hcs) hJ kk
theorem robj (X : Cx p s m args c cc nL own E B) {b : Nat} (hlink : Cond.methodLink own index objectInit ∈ TW) (hinst : Cond.instanceMethod objectInit ∈ TW) (hcode : Cond.code objectInit ⟨#[0xb1]⟩ 1 none ∈ TW) (hls : ls.size = nL) (hfr : 1 ≤ R.frames ∧ (rest.map fun v => v.category).sum + 12 ≤ R.locals) (hcs : cells ≤ R.cells ∧ slots ≤ R.slots) (hdg : decode cc pc = .ok (.invokespecial index, 3))
    (kk : W p l e R s m args below meth c H locs cells slots Q (F0 m (pc + 3) ls rest)) : W p l e R s m args below meth c H locs cells slots Q (F0 m pc ls (.ref b :: rest)) := by
  have hts := X.2.2.2.2.1
  refine W.objInit X.1 X.2.1 X.2.2.2.1 (hts _ hlink) (hts _ hinst) (hts _ hcode) rfl (by rw [X.2.2.1]; exact hls) rfl hdg hfr.1 (by show 2 * 0 + _ + 12 ≤ _; have := hfr.2; omega) ?_
  exact kk

theorem rgetsN (X : Cx p s m args c cc nL own E B) (hJ : JL E B s n f H locs) {nm host : String} {a : Row} (hS : ST1 nm a B s s.heap) (hl : va_Nw (.fieldLinkNest own index RX6 nm "[I" host) s) (hdg : decode cc pc = .ok (.getstatic index, 3))
    (kk : ∀ t : Nat, va_T .int t 4 (fun j => .int (a j)) (fB B) s s.heap → W p l e R s m args below meth c H locs cells slots Q (F0 m (pc + 3) ls (.ref t :: rest))) : W p l e R s m args below meth c H locs cells slots Q (F0 m pc ls rest) := by
  obtain ⟨t, hZ, hT⟩ := hS
  exact va_getsN X.1 X.2.1 hZ hJ.2.1 X.2.2.2.1 (va_Nw.use rfl hl) (fun _ h => h) hdg (kk t hT)
theorem rsld (X : Cx p s m args c cc nL own E B) (hJ : JL E B s n f H locs) {a : Row} {t j : Nat} (hT : va_T .int t 4 (fun j => .int (a j)) (fB B) s s.heap) {i : Int32} (hi : i = nI j) (hj : j < 4) (hdg : decode cc pc = .ok (.iaload, 1))
    (kk : W p l e R s m args below meth c H locs cells slots Q (F0 m (pc + 1) ls (.int (a j) :: rest))) : W p l e R s m args below meth c H locs cells slots Q (F0 m pc ls (.int i :: .ref t :: rest)) := by
  subst hi
  obtain ⟨cell, h1, h2, h3, h4, h5, h6, h7⟩ := hT
  have hlt := (Array.getElem?_eq_some_iff.mp h1).1
  have hin := vp_in_nI (n := j) (N := 4) hj (by omega)
  refine W.iald (v := .int (a j)) X.1 X.2.1 (by rw [hJ.2.1.2.1 t hlt h7]; exact h1) h2 h3 ?_ ?_ rfl rfl hdg kk
  · rw [nI_clamp (by omega)]
    intro q
    rcases q with q | q
    · exact nI_pos (n := j) (by omega) q
    · omega
  · rw [nI_clamp (by omega)]; exact h6 j hj
theorem rmin (X : Cx p s m args c cc nL own E B) (hlink : Cond.methodLink own index Lib.Math.min.name ∈ TW) (hls : ls.size = nL) (hfr : 1 ≤ R.frames ∧ (rest.map fun v => v.category).sum + 13 ≤ R.locals) (hcs : cells ≤ R.cells ∧ slots ≤ R.slots) {x y : Int32} (hdg : decode cc pc = .ok (.invokestatic index, 3))
    (kk : W p l e R s m args below meth c H locs cells slots Q (F0 m (pc + 3) ls (.int (if y < x then y else x) :: rest))) : W p l e R s m args below meth c H locs cells slots Q (F0 m pc ls (.int y :: .int x :: rest)) :=
  va_mmin X.1 X.2.1 (by rw [X.2.2.1, hls]) X.2.2.2.1 (X.2.2.2.2.1 _ hlink) (X.2.2.2.2.1 _ tw_min_s) (X.2.2.2.2.1 _ tw_min_i) (X.2.2.2.2.1 _ tw_min_c) hfr.1 hfr.2 hcs.1 hcs.2 hdg kk
theorem rmax (X : Cx p s m args c cc nL own E B) (hlink : Cond.methodLink own index Lib.Math.max.name ∈ TW) (hls : ls.size = nL) (hfr : 1 ≤ R.frames ∧ (rest.map fun v => v.category).sum + 13 ≤ R.locals) (hcs : cells ≤ R.cells ∧ slots ≤ R.slots) {x y : Int32} (hdg : decode cc pc = .ok (.invokestatic index, 3))
    (kk : W p l e R s m args below meth c H locs cells slots Q (F0 m (pc + 3) ls (.int (if x < y then y else x) :: rest))) : W p l e R s m args below meth c H locs cells slots Q (F0 m pc ls (.int y :: .int x :: rest)) :=
  va_mmax X.1 X.2.1 (by rw [X.2.2.1, hls]) X.2.2.2.1 (X.2.2.2.2.1 _ hlink) (X.2.2.2.2.1 _ tw_max_s) (X.2.2.2.2.1 _ tw_min_i) (X.2.2.2.2.1 _ tw_max_c) hfr.1 hfr.2 hcs.1 hcs.2 hdg kk
end CL
