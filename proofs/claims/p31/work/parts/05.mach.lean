/-! the machine's rows over that picture -/
def NW (U : State) : Prop := va_Nw (.fieldLinkNest RX5 34 RX6 "FIRST_SETTINGS" "[I" RX6) U ∧ va_Nw (.fieldLinkNest RX5 76 RX6 "LEAST_SETTINGS" "[I" RX6) U ∧ va_Nw (.fieldLinkNest RX5 79 RX6 "MOST_SETTINGS" "[I" RX6) U ∧ va_Nw (.methodLinkNest RX6 36 yX4_init RX6) U ∧ va_Nw (.methodLinkNest RX5 72 yX6_isBelow RX6) U ∧ va_AO RX0 U ∧ va_AO RX1 U ∧ va_AO RX5 U
theorem NW.warm {s U : State} (hW : s.WarmedH U.vm) (h : NW s) : NW U := ⟨va_Nw.warmF hW h.1, va_Nw.warmF hW h.2.1, va_Nw.warmF hW h.2.2.1, va_Nw.warmM hW h.2.2.2.1, va_Nw.warmM hW h.2.2.2.2.1, va_AO.moved hW.alike h.2.2.2.2.2.1, va_AO.moved hW.alike h.2.2.2.2.2.2.1, va_AO.moved hW.alike h.2.2.2.2.2.2.2⟩
theorem va_AO.same {C : String} {u U : State} (h : u.vm = U.vm) (hz : va_AO C u) : va_AO C U := va_AO.moved (by rw [h]; exact Vm.Alike.refl _) hz
theorem NW.same {s U : State} (hW : s.vm = U.vm) (h : NW s) : NW U := ⟨va_Nw.same rfl hW h.1, va_Nw.same rfl hW h.2.1, va_Nw.same rfl hW h.2.2.1, va_Nw.same rfl hW h.2.2.2.1, va_Nw.same rfl hW h.2.2.2.2.1, va_AO.same hW h.2.2.2.2.2.1, va_AO.same hW h.2.2.2.2.2.2.1, va_AO.same hW h.2.2.2.2.2.2.2⟩
/-- the three rows of numbers that the class keeps as statics -/
def st_first : Row := fun j => match j with | 0 => 3 | 1 => 1 | 2 => 2 | _ => 5
def st_least : Row := fun j => match j with | 0 => 0 | 1 => 0 | 2 => 0 | _ => 1
def st_most : Row := fun j => match j with | 0 => 50 | 1 => 20 | 2 => 50 | _ => 20
def ST1 (n : String) (f : Row) (B : Nat) (U : State) (H : Heap) : Prop := ∃ t : Nat, va_Z RX6 n "[I" (.ref t) (fB B) U H ∧ va_T .int t 4 (fun j => .int (f j)) (fB B) U H
def ST (B : Nat) (U : State) (H : Heap) : Prop := ST1 "FIRST_SETTINGS" st_first B U H ∧ ST1 "LEAST_SETTINGS" st_least B U H ∧ ST1 "MOST_SETTINGS" st_most B U H
theorem ST1.to {n : String} {f : Row} {B : Nat} {u U : State} {H H1 : Heap} (hvm : u.vm.Alike U.vm) (hq : ∀ a : Nat, a < H.size → ¬ fB B a → H1[a]? = H[a]?) (h : ST1 n f B u H) : ST1 n f B U H1 := by
  obtain ⟨t, h1, h2⟩ := h
  exact ⟨t, (h1.moved hvm).kept hq, (h2.moved hvm).kept hq⟩
theorem ST.to {B : Nat} {u U : State} {H H1 : Heap} (hvm : u.vm.Alike U.vm) (hq : ∀ a : Nat, a < H.size → ¬ fB B a → H1[a]? = H[a]?) (h : ST B u H) : ST B U H1 := ⟨h.1.to hvm hq, h.2.1.to hvm hq, h.2.2.to hvm hq⟩
def BPx (E : EE) (B : Nat) (U : State) : Prop := va_K E.1 vwCl (tys E) U ∧ NW U ∧ ST B U U.heap ∧ B ≤ U.heap.size
def BP (E : EE) (B n : Nat) (f : Nat → va_E) (U : State) : Prop := va_P E.1 vwCl (wl B n f) U.heap ∧ BPx E B U ∧ U.heap.size = B + n
theorem BPx.at {E : EE} {B : Nat} {s U : State} {H : Heap} {locs : List Loc} (h : BPx E B s) (hS : va_S (fB B) s.heap H locs) (hU : U.heap = H) (hW : s.WarmedH U.vm) : BPx E B U := by
  obtain ⟨h1, h2, h3, h4⟩ := h
  refine ⟨va_K.moved hW.alike h1, h2.warm hW, ?_, ?_⟩
  · rw [hU]; exact h3.to hW.alike (fun a ha hn => hS.2.1 a ha hn)
  · rw [hU]; exact Nat.le_trans h4 hS.1
theorem BPx.same {E : EE} {B : Nat} {s U : State} (h : BPx E B s) (hU : U.heap = s.heap) (hv : s.vm = U.vm) : BPx E B U := by
  obtain ⟨h1, h2, h3, h4⟩ := h
  have ha : s.vm.Alike U.vm := by rw [hv]; exact Vm.Alike.refl _
  refine ⟨va_K.moved ha h1, h2.same hv, ?_, by rw [hU]; exact h4⟩
  rw [hU]; exact h3.to ha (fun _ _ _ => rfl)
def JL (E : EE) (B : Nat) (s : State) (n : Nat) (f : Nat → va_E) (H : Heap) (locs : List Loc) : Prop := va_P E.1 vwCl (wl B n f) H ∧ va_S (fB B) s.heap H locs ∧ H.size = B + n
abbrev JG (E : EE) (B : Nat) (s : State) (g : GS) (H : Heap) (locs : List Loc) : Prop := JL E B s 459 (pcT E B g) H locs
theorem JL.BP {E : EE} {B n : Nat} {s U : State} {f : Nat → va_E} {H : Heap} {locs : List Loc} (h : JL E B s n f H locs) (hx : BPx E B s) (hU : U.heap = H) (hW : s.WarmedH U.vm) : BP E B n f U := ⟨by rw [hU]; exact h.1, hx.at h.2.1 hU hW, by rw [hU]; exact h.2.2⟩
def Cx (p : Program) (s : State) (m : MethodId) (args : Array Value) (c : Code) (cc : ByteArray) (nL : Nat) (own : String) (E : EE) (B : Nat) : Prop :=
  p.tables.exec = Jvm.exec ∧ c.code = cc ∧ c.maxLocals = nL ∧ s.vm.findClass own = some m.cls ∧ (∀ w ∈ TW, w.before args s = true) ∧ BPx E B s
abbrev rmm (fr lo mc ms : Nat) : Room := { frames := fr, cells := mc, slots := ms, locals := lo }
/-- a contract: from the picture f of n cells, with these arguments, the method answers rv and leaves the picture f' of n' cells -/
def Ct (l : Launch) (y : MethodName) (cb : ByteArray) (maxL : Nat) (ret : Option FieldType) (fr lo mc ms : Nat) (E : EE) (B : Nat) (av : List Value) (n : Nat) (f : Nat → va_E) (rv : Option Value) (n' : Nat) (f' : Nat → va_E) : Prop :=
  Met l y (wsm y cb maxL ret) (rmm fr lo mc ms) (va_Pc av (BP E B n f)) (fun _ st oc t => (oc = .returned rv ∧ BP E B n' f' t) ∧ va_F (fB B) st t) mc ms (fB B)
abbrev CG (l : Launch) (y : MethodName) (cb : ByteArray) (maxL : Nat) (ret : Option FieldType) (fr lo : Nat) (E : EE) (B : Nat) (av : List Value) (g : GS) (rv : Option Value) (g' : GS) : Prop :=
  Ct l y cb maxL ret fr lo 0 0 E B av 459 (pcT E B g) rv 459 (pcT E B g')
theorem Pc_blind {E : EE} {B n : Nat} {f : Nat → va_E} {av : List Value} : FrameBlind (va_Pc av (BP E B n f)) := fun a U g mk h => ⟨h.1, h.2.1, h.2.2.1.same rfl rfl, h.2.2.2⟩
section MR
variable {p : Program} {l : Launch} {e : Env} {R : Room} {s : State} {m : MethodId} {args : Array Value} {below : List Frame} {meth : Method} {c : Code} {H : Heap} {locs : List Loc} {cells slots : Nat} {Q : State → Prop}
variable {cc : ByteArray} {nL : Nat} {own : String} {E : EE} {B : Nat} {pc : Nat} {ls : Array Slot} {rest : List Value} {n : Nat} {f : Nat → va_E}
theorem rget (X : Cx p s m args c cc nL own E B) (hJ : JL E B s n f H locs) {o ci index : Nat} {fs : List Value} {v : Value} {ref C : String} {T : u_T} {N : Nat} (hc : vwCl[ci]? = some (C, T, N)) (hin : ∀ w ∈ u_ws C T N, w ∈ TW) (k : Nat) (hk : k < N) (hlink : Cond.fieldLink own index ref (T k).2.1 (T k).2.2.1 ∈ TW) (href : ref = (T k).1) (ho : o < n) (hf : f o = .inr (ci, fs)) (hv : fs[k]? = some v) (hdg : decode cc pc = .ok (.getfield index, 3))
    (kk : W p l e R s m args below meth c H locs cells slots Q (F0 m (pc + 3) ls (v :: rest))) : W p l e R s m args below meth c H locs cells slots Q (F0 m pc ls (.ref (B + o) :: rest)) :=
  va_get (D := E.1) (tys := tys E) X.1 X.2.1 X.2.2.2.2.1 hin X.2.2.2.1 X.2.2.2.2.2.1 hJ.1 o (by rw [wl_at ho, hf]) hc k hk (X.2.2.2.2.1 _ hlink) (by rw [href]; exact fun _ h => h) hv hdg kk
theorem rput (X : Cx p s m args c cc nL own E B) (hJ : JL E B s n f H locs) {o ci index : Nat} {fs : List Value} {v : Value} {ref C : String} {T : u_T} {N : Nat} {ty0 : Nat → FieldType} (hc : vwCl[ci]? = some (C, T, N)) (hin : ∀ w ∈ u_ws C T N, w ∈ TW) (hty : ∀ k, k < N → parseFieldDescriptor (T k).2.2.1 = some (ty0 k)) (hnm : ∀ a, a < N → ∀ b, b < N → a ≠ b → (T a).2.1 ≠ (T b).2.1) (k : Nat) (hk : k < N) (hlink : Cond.fieldLink own index ref (T k).2.1 (T k).2.2.1 ∈ TW) (href : ref = (T k).1) (hfin : (T k).2.2.2 = false) (hn : narrow (ty0 k) v = v) (hfit : fits (ty0 k) v = true) (ho : o < n) (hf : f o = .inr (ci, fs)) (hl : k < fs.length) (hdg : decode cc pc = .ok (.putfield index, 3))
    (kk : ∀ (H1 : Heap) (locs1 : List Loc), JL E B s n (va_up f o (.inr (ci, fs.set k v))) H1 locs1 → W p l e R s m args below meth c H1 locs1 cells slots Q (F0 m (pc + 3) ls rest)) : W p l e R s m args below meth c H locs cells slots Q (F0 m pc ls (v :: .ref (B + o) :: rest)) := by
  have hexec := X.1
  have hb := X.2.1
  have hts := X.2.2.2.2.1
  have hown := X.2.2.2.1
  have hK := X.2.2.2.2.2.1
  have he : (wl B n f)[o]? = some (B + o, .inr (ci, fs)) := by rw [wl_at ho, hf]
  have hap := va_apart (own := own) hts hin ty0 hty hnm hK hc
  obtain ⟨r, h1, cell, q1, q2, q3, q4⟩ := hJ.1 o _ he
  have hr : r = (C, T, N) := Option.some.inj (h1.symm.trans hc)
  subst hr
  obtain ⟨hS, hfc, kC, hkC, hkind⟩ := hK.1 ci _ hc
  obtain ⟨cf, kf, fi, fd, hi, hsl⟩ := hS k hk
  have hlay := hts _ (hin _ (u_in_lay hk))
  unfold u_lay at hlay
  rw [if_neg (by rw [hfin]; decide)] at hlay
  have hst := (u_facts hfc hkC (u_lays hts hin hk) hi).1
  have h6 := u_store hfc hkC hkind hlay hi (hty k hk) hn hfit
  refine W.putK hexec hb (f := fd) ⟨hown, hts _ hlink, ⟨_, _, _, by rw [href]; exact hi⟩, hst⟩ (by rw [q2]; exact h6) q1 q3 (by rw [hsl]; exact k2_hasslot (q4 k hk)) rfl rfl hdg fun H' e1 e2 e3 => ?_
  rw [hsl] at e1 ⊢
  refine kk H' _ ⟨?_, hJ.2.1.put e2 e3 (Nat.le_add_right B o), e2.trans hJ.2.2⟩
  rw [← wl_set ho]
  exact hJ.1.set wl_D he ⟨_, hc, t_OB.to (V := updV (vp_V fs) k v) ⟨_, e1, q2, q3, t_set q4 hap hk v⟩ (fun j _ => vp_updV_set hl v j)⟩ e3
theorem rald (X : Cx p s m args c cc nL own E B) (hJ : JL E B s n f H locs) {o N : Nat} {a : Row} (ho : o < n) (hf : f o = .inl (E.2 0, N, .inl a)) {i : Int32} {j : Nat} (hi : i = nI j) (hj : j < N) (hN : N < 2 ^ 31) (hdg : decode cc pc = .ok (.iaload, 1))
    (kk : W p l e R s m args below meth c H locs cells slots Q (F0 m (pc + 1) ls (.int (a j) :: rest))) : W p l e R s m args below meth c H locs cells slots Q (F0 m pc ls (.int i :: .ref (B + o) :: rest)) := by
  subst hi
  refine va_iald (D := E.1) (tys := tys E) X.1 X.2.1 X.2.2.2.2.2.1 hJ.1 o 0 (by rw [wl_at ho, hf]) rfl (vp_in_nI hj hN) hdg ?_
  rw [nI_clamp (by omega)]
  exact kk
theorem rast (X : Cx p s m args c cc nL own E B) (hJ : JL E B s n f H locs) {o N : Nat} {a : Row} (ho : o < n) (hf : f o = .inl (E.2 0, N, .inl a)) {i x : Int32} {j : Nat} (hi : i = nI j) (hj : j < N) (hN : N < 2 ^ 31) (hdg : decode cc pc = .ok (.iastore, 1))
    (kk : ∀ (H1 : Heap) (locs1 : List Loc), JL E B s n (va_up f o (.inl (E.2 0, N, .inl (upd a j x)))) H1 locs1 → W p l e R s m args below meth c H1 locs1 cells slots Q (F0 m (pc + 1) ls rest)) : W p l e R s m args below meth c H locs cells slots Q (F0 m pc ls (.int x :: .int i :: .ref (B + o) :: rest)) := by
  subst hi
  have he : (wl B n f)[o]? = some (B + o, .inl (E.2 0, N, .inl a)) := by rw [wl_at ho, hf]
  have hin := vp_in_nI hj hN
  refine W.iast X.1 X.2.1 (hJ.1 o _ he) ((X.2.2.2.2.2.1.2 0 _ rfl).1 N (fun j => .int (a j))) (fun q => by cases q) (by show ¬ (nI j < 0 ∨ (arrV _ _ _).slots.size ≤ _); rw [arrV_size]; exact hin) rfl rfl hdg fun H1 e z oq => ?_
  refine kk H1 _ ⟨?_, hJ.2.1.put z oq (Nat.le_add_right B o), z.trans hJ.2.2⟩
  rw [← wl_set ho]
  refine hJ.1.set wl_D he ?_ oq
  show H1[B + o]? = some (vp_cell _ _)
  rw [e, nI_clamp (by omega), vp_cell_i, vp_cell_i, arrV_store]
  congr 2
  funext q
  by_cases hq : q = j
  · subst hq; simp [updV, upd]
  · simp [updV, upd, hq]
theorem rzld (X : Cx p s m args c cc nL own E B) (hJ : JL E B s n f H locs) {o N : Nat} {a : Row} (ho : o < n) (hf : f o = .inl (E.2 1, N, .inl a)) {i : Int32} {j : Nat} (hi : i = nI j) (hj : j < N) (hN : N < 2 ^ 31) (hdg : decode cc pc = .ok (.baload, 1))
    (kk : W p l e R s m args below meth c H locs cells slots Q (F0 m (pc + 1) ls (.int (a j) :: rest))) : W p l e R s m args below meth c H locs cells slots Q (F0 m pc ls (.int i :: .ref (B + o) :: rest)) := by
  subst hi
  refine va_zald (D := E.1) (tys := tys E) X.1 X.2.1 X.2.2.2.2.2.1 hJ.1 o 1 (by rw [wl_at ho, hf]) rfl (vp_in_nI hj hN) hdg ?_
  rw [nI_clamp (by omega)]
  exact kk
theorem rzst (X : Cx p s m args c cc nL own E B) (hJ : JL E B s n f H locs) {o N : Nat} {a : Row} (ho : o < n) (hf : f o = .inl (E.2 1, N, .inl a)) {i x : Int32} {j : Nat} (hi : i = nI j) (hx : narrow .boolean (.int x) = .int x) (hj : j < N) (hN : N < 2 ^ 31) (hdg : decode cc pc = .ok (.bastore, 1))
    (kk : ∀ (H1 : Heap) (locs1 : List Loc), JL E B s n (va_up f o (.inl (E.2 1, N, .inl (upd a j x)))) H1 locs1 → W p l e R s m args below meth c H1 locs1 cells slots Q (F0 m (pc + 1) ls rest)) : W p l e R s m args below meth c H locs cells slots Q (F0 m pc ls (.int x :: .int i :: .ref (B + o) :: rest)) := by
  subst hi
  have he : (wl B n f)[o]? = some (B + o, .inl (E.2 1, N, .inl a)) := by rw [wl_at ho, hf]
  have hin := vp_in_nI hj hN
  refine W.zast X.1 X.2.1 (hJ.1 o _ he) ((X.2.2.2.2.2.1.2 1 _ rfl).1 N (fun j => .int (a j))) (fun q => by cases q) (by show ¬ (nI j < 0 ∨ (arrV _ _ _).slots.size ≤ _); rw [arrV_size]; exact hin) rfl rfl hdg fun H1 e z oq => ?_
  refine kk H1 _ ⟨?_, hJ.2.1.put z oq (Nat.le_add_right B o), z.trans hJ.2.2⟩
  rw [← wl_set ho]
  refine hJ.1.set wl_D he ?_ oq
  show H1[B + o]? = some (vp_cell _ _)
  rw [e, nI_clamp (by omega), hx, vp_cell_i, vp_cell_i, arrV_store]
  congr 2
  funext q
  by_cases hq : q = j
  · subst hq; simp [updV, upd]
  · simp [updV, upd, hq]
theorem raldq (X : Cx p s m args c cc nL own E B) (hJ : JL E B s n f H locs) {o N t0 : Nat} {cA : ClassId} {C : String} {a : Nat → Nat} (ht : (tys E)[t0]? = some (cA, .object C)) (ho : o < n) (hf : f o = .inl (cA, N, rfs N a)) {i : Int32} {j : Nat} (hi : i = nI j) (hj : j < N) (hN : N < 2 ^ 31) (hdg : decode cc pc = .ok (.aaload, 1))
    (kk : W p l e R s m args below meth c H locs cells slots Q (F0 m (pc + 1) ls (.ref (a j) :: rest))) : W p l e R s m args below meth c H locs cells slots Q (F0 m pc ls (.int i :: .ref (B + o) :: rest)) := by
  subst hi
  refine va_aldq (D := E.1) (tys := tys E) X.1 X.2.1 X.2.2.2.2.2.1 hJ.1 o t0 (f := fun j => if j < N then some (a j) else none) (n := N) (by rw [wl_at ho, hf]; rfl) ht (vp_in_nI hj hN) hdg ?_
  rw [nI_clamp (by omega), if_pos hj]
  exact kk

theorem rputF (X : Cx p s m args c cc nL own E B) (hin2 : meth.name = "<init>") (hJ : JL E B s n f H locs) {o ci index : Nat} {fs : List Value} {v : Value} {ref C : String} {T : u_T} {N : Nat} {ty0 : Nat → FieldType} (hc : vwCl[ci]? = some (C, T, N)) (hin : ∀ w ∈ u_ws C T N, w ∈ TW) (hty : ∀ k, k < N → parseFieldDescriptor (T k).2.2.1 = some (ty0 k)) (hnm : ∀ a, a < N → ∀ b, b < N → a ≠ b → (T a).2.1 ≠ (T b).2.1) (k : Nat) (hk : k < N) (hlink : Cond.fieldLink own index ref (T k).2.1 (T k).2.2.1 ∈ TW) (href : ref = (T k).1) (hfin : (T k).2.2.2 = true) (hdecl : (T k).1 = own) (hn : narrow (ty0 k) v = v) (hfit : fits (ty0 k) v = true) (ho : o < n) (hf : f o = .inr (ci, fs)) (hl : k < fs.length) (hdg : decode cc pc = .ok (.putfield index, 3))
    (kk : ∀ (H1 : Heap) (locs1 : List Loc), JL E B s n (va_up f o (.inr (ci, fs.set k v))) H1 locs1 → W p l e R s m args below meth c H1 locs1 cells slots Q (F0 m (pc + 3) ls rest)) : W p l e R s m args below meth c H locs cells slots Q (F0 m pc ls (v :: .ref (B + o) :: rest)) := by
  have hexec := X.1
  have hb := X.2.1
  have hts := X.2.2.2.2.1
  have hown := X.2.2.2.1
  have hK := X.2.2.2.2.2.1
  have he : (wl B n f)[o]? = some (B + o, .inr (ci, fs)) := by rw [wl_at ho, hf]
  have hap := va_apart (own := own) hts hin ty0 hty hnm hK hc
  obtain ⟨r, h1, cell, q1, q2, q3, q4⟩ := hJ.1 o _ he
  have hr : r = (C, T, N) := Option.some.inj (h1.symm.trans hc)
  subst hr
  obtain ⟨hS, hfc, kC, hkC, hkind⟩ := hK.1 ci _ hc
  obtain ⟨cf, kf, fi, fd, hi, hsl⟩ := hS k hk
  have hlay := hts _ (hin _ (u_in_lay hk))
  unfold u_lay at hlay
  rw [if_pos hfin] at hlay
  have hst := (u_facts hfc hkC (u_lays hts hin hk) hi).1
  have hcf : m.cls = cf := by
    obtain ⟨_, _, c', _, _, _, -, -, hf', -, -, -, hown2, -⟩ := Cond.laysFinal_spec hlay
    have e1 : c' = cf := by have := hi.symm.trans hf'; simp at this; exact this.1.symm
    rw [hdecl] at hown2
    rw [← e1]; exact Option.some.inj (hown.symm.trans hown2)
  have h6 := u_fits hfc hkC hkind (Or.inr hlay) hi (hty k hk) hn hfit
  refine W.putFinK hexec hb hown (hts _ hlink) (by rw [href]; exact hi) hst hcf hin2 (by rw [q2]; exact h6) q1 q3 (by rw [hsl]; exact k2_hasslot (q4 k hk)) rfl rfl hdg fun H' e1 e2 e3 => ?_
  rw [hsl] at e1 ⊢
  refine kk H' _ ⟨?_, hJ.2.1.put e2 e3 (Nat.le_add_right B o), e2.trans hJ.2.2⟩
  rw [← wl_set ho]
  exact hJ.1.set wl_D he ⟨_, hc, t_OB.to (V := updV (vp_V fs) k v) ⟨_, e1, q2, q3, t_set q4 hap hk v⟩ (fun j _ => vp_updV_set hl v j)⟩ e3
theorem JL.push {s : State} {H H1 : Heap} {locs : List Loc} {e : va_E} (hJ : JL E B s n f H locs) (hB : B ≤ s.heap.size) (z : H1.size = H.size + 1) (oq : ∀ q, q < H.size → H1[q]? = H[q]?) (he : va_at E.1 vwCl (B + n, e) H1) : JL E B s (n + 1) (va_up f n e) H1 locs := by
  refine ⟨?_, ⟨by have := hJ.2.1.1; omega, fun q h1 h2 => (oq q (Nat.lt_of_lt_of_le h1 hJ.2.1.1)).trans (hJ.2.1.2.1 q h1 h2), hJ.2.1.2.2⟩, by have := hJ.2.2; omega⟩
  rw [← wl_push]
  refine va_P.app (hJ.1.kept (fun k x hx => oq x.1 ((hJ.1 k x hx).lt))) (fun k x hx => ?_)
  have hz : k < 1 := (List.getElem?_eq_some_iff.mp hx).1
  rw [show k = 0 by omega] at hx
  cases hx
  exact he
theorem rnew (X : Cx p s m args c cc nL own E B) (hJ : JL E B s n f H locs) {ci index : Nat} {fs : List Value} {C : String} {T : u_T} {N : Nat} {ty0 : Nat → FieldType} (hc : vwCl[ci]? = some (C, T, N)) (hin : ∀ w ∈ u_ws C T N, w ∈ TW) (hty : ∀ k, k < N → parseFieldDescriptor (T k).2.2.1 = some (ty0 k)) (hcl : Cond.classLink own index C ∈ TW) (hinst : Cond.instantiable C N ∈ TW) (hini : Cond.initialized C ∈ TW) (hfs : ∀ j, j < N → defaultValue (ty0 j) = vp_V fs j) (hcells : cells + 1 ≤ R.cells) (hslots : slots + N ≤ R.slots) (hdg : decode cc pc = .ok (.new index, 3))
    (kk : ∀ (H1 : Heap), JL E B s (n + 1) (va_up f n (.inr (ci, fs))) H1 locs → W p l e R s m args below meth c H1 locs (cells + 1) (slots + N) Q (F0 m (pc + 3) ls (.ref (B + n) :: rest))) : W p l e R s m args below meth c H locs cells slots Q (F0 m pc ls rest) := by
  have hts := X.2.2.2.2.1
  have hK := X.2.2.2.2.2.1
  have hKn := hK.1 ci _ hc
  refine W.newcK X.1 X.2.1 X.2.2.2.1 (hts _ hcl) (hts _ hinst) (hts _ hini) rfl hdg hcells hslots hKn.2.1 hJ.2.2 fun H1 kC hkC e1 z1 o1 => ?_
  refine kk H1 (hJ.push X.2.2.2.2.2.2.2.2 (by rw [hJ.2.2]; exact z1) (by rw [hJ.2.2]; exact o1) ⟨_, hc, (u_born ty0 hts hin hKn hkC e1 hty).to hfs⟩)
theorem rnewa (X : Cx p s m args c cc nL own E B) (hJ : JL E B s n f H locs) {atype : ArrayType} {t0 : Nat} {ty : FieldType} (harr : Cond.arrayClass (newarray.typeOf atype) ∈ TW) (hty : newarray.typeOf atype = ty) (ht : (tys E)[t0]? = some (E.2 t0, ty)) (hra : va_RA s (E.2 t0) ty → s.vm.findClass ("[" ++ ty.toString) = some (E.2 t0)) (hd0 : defaultValue ty = .int 0) {i : Int32} {N : Nat} (hi : i = nI N) (hN : N < 10000) (hcb : componentBytes ty ≤ 8) (hcells : cells + 1 ≤ R.cells) (hslots : slots + N ≤ R.slots) (hdg : decode cc pc = .ok (.newarray atype, 2))
    (kk : ∀ (H1 : Heap), JL E B s (n + 1) (va_up f n (.inl (E.2 t0, N, .inl (fun _ => 0)))) H1 locs → W p l e R s m args below meth c H1 locs (cells + 1) (slots + N) Q (F0 m (pc + 2) ls (.ref (B + n) :: rest))) : W p l e R s m args below meth c H locs cells slots Q (F0 m pc ls (.int i :: rest)) := by
  subst hi
  subst hty
  have hK := X.2.2.2.2.2.1
  refine va_newaK X.1 X.2.1 (X.2.2.2.2.1 _ harr) rfl hdg rfl (nI_pos (by omega)) (nI_clamp (by omega)) ?_ hcells hslots hJ.2.2 fun H1 cA e1 z1 o1 hAr hNm => ?_
  · have : N * componentBytes (newarray.typeOf atype) ≤ 10000 * 8 := Nat.mul_le_mul (by omega) hcb
    omega
  · have hc : cA = E.2 t0 := Option.some.inj (hNm.symm.trans (hra (hK.2 t0 _ ht).2))
    subst hc
    refine kk H1 (hJ.push X.2.2.2.2.2.2.2.2 (by rw [hJ.2.2]; exact z1) (by rw [hJ.2.2]; exact o1) ?_)
    show H1[B + n]? = some (vp_cell _ _)
    rw [e1, hd0, vp_cell_i]
theorem ranew (X : Cx p s m args c cc nL own E B) (hJ : JL E B s n f H locs) {C : String} {index t0 : Nat} (hcl : Cond.classLink own index C ∈ TW) (hao : va_AO C s) (ht : (tys E)[t0]? = some (E.2 t0, .object C)) {i : Int32} {N : Nat} (hi : i = nI N) (hN : N < 10000) (hcells : cells + 1 ≤ R.cells) (hslots : slots + N ≤ R.slots) (hdg : decode cc pc = .ok (.anewarray index, 3))
    (kk : ∀ (H1 : Heap), JL E B s (n + 1) (va_up f n (.inl (E.2 t0, N, .inr (.inr (.inr (.inr (fun _ => none))))))) H1 locs → W p l e R s m args below meth c H1 locs (cells + 1) (slots + N) Q (F0 m (pc + 3) ls (.ref (B + n) :: rest))) : W p l e R s m args below meth c H locs cells slots Q (F0 m pc ls (.int i :: rest)) := by
  subst hi
  have hK := X.2.2.2.2.2.1
  have hnc : (nI N).toNatClampNeg = N := nI_clamp (by omega)
  refine W.anew X.1 X.2.1 X.2.2.2.1 (X.2.2.2.2.1 _ hcl) (va_AO.use hao) rfl hdg rfl (nI_pos (by omega)) (by rw [hnc]; omega) hcells (by rw [hnc]; exact hslots) fun cA kA comp h1 h2 h3 h4 => ?_
  obtain ⟨kA', comp', g1, g2, g3, g4⟩ := (hK.2 t0 _ ht).2
  have hc : cA = E.2 t0 := Option.some.inj (h1.symm.trans g4)
  subst hc
  have hw := kk (H.push { cls := E.2 t0, slots := Array.replicate N .null, vm := .none }) (hJ.push X.2.2.2.2.2.2.2.2 (by simp) (fun q hq => by rw [Array.getElem?_push, if_neg (Nat.ne_of_lt hq)]) (by
    show _ = some (vp_cell _ _)
    rw [← hJ.2.2, Array.getElem?_push_size, vp_cell_q]
    exact congrArg some (arrV_new _ _ _)))
  rw [hnc, hJ.2.2]
  exact hw
theorem rastq (X : Cx p s m args c cc nL own E B) (hJ : JL E B s n f H locs) {o ov N t0 ci : Nat} {cA : ClassId} {r : vw_C} {vs : List Value} {a : Nat → Option Nat} (ht : (tys E)[t0]? = some (cA, .object r.1)) (hc : vwCl[ci]? = some r) (ho : o < n) (hf : f o = .inl (cA, N, .inr (.inr (.inr (.inr a))))) (hov : ov < n) (hfv : f ov = .inr (ci, vs)) {i : Int32} {j : Nat} (hi : i = nI j) (hj : j < N) (hN : N < 2 ^ 31) (hdg : decode cc pc = .ok (.aastore, 1))
    (kk : ∀ (H1 : Heap) (locs1 : List Loc), JL E B s n (va_up f o (.inl (cA, N, .inr (.inr (.inr (.inr (va_up a j (some (B + ov))))))))) H1 locs1 → W p l e R s m args below meth c H1 locs1 cells slots Q (F0 m (pc + 1) ls rest)) : W p l e R s m args below meth c H locs cells slots Q (F0 m pc ls (.ref (B + ov) :: .int i :: .ref (B + o) :: rest)) := by
  subst hi
  have hK := X.2.2.2.2.2.1
  have hin := vp_in_nI hj hN
  have ha : (wl B n f)[o]? = some (B + o, .inl (cA, N, .inr (.inr (.inr (.inr a))))) := by rw [wl_at ho, hf]
  have hv : (wl B n f)[ov]? = some (B + ov, .inr (ci, vs)) := by rw [wl_at hov, hfv]
  have hlt : (nI j).toNatClampNeg < N := Nat.not_le.mp fun q => hin (Or.inr q)
  have h0 : ¬ nI j < 0 := fun q => hin (Or.inl q)
  obtain ⟨r', hr', cellV, g1, g2, g3, -⟩ := hJ.1 ov _ hv
  have hcls := (hK.1 ci r hc).2
  obtain ⟨kA, comp, k1, k2, k3, -⟩ := (hK.2 t0 _ ht).2
  have hcomp : comp = E.1.1 ci := Option.some.inj (k3.symm.trans hcls.1)
  subst hcomp
  obtain ⟨kC, hkC, -⟩ := hcls.2
  refine W.aast X.1 X.2.1 (hJ.1 o _ ha) (fun q h => by cases h) (fun h => by cases h) k1 k2 rfl hkC ⟨h0, by show _ < (arrV _ _ _).slots.size; rw [arrV_size]; exact hlt⟩ g1 (fun q h => by rw [g3] at h; cases h) (by rw [g2]; exact hkC) (by rw [g2]; exact va_assign hcls) rfl rfl hdg fun H1 e z oq => ?_
  refine kk H1 _ ⟨?_, hJ.2.1.put z oq (Nat.le_add_right B o), z.trans hJ.2.2⟩
  rw [← wl_set ho]
  refine hJ.1.set wl_D ha ?_ oq
  show H1[B + o]? = some (vp_cell _ _)
  rw [e, nI_clamp (by omega), vp_cell_q, vp_cell_q, arrV_store]
  congr 2
  funext q
  by_cases hq : q = j
  · subst hq; simp [updV, va_up, va_rf]
  · simp [updV, va_up, hq]
theorem rcopy (X : Cx p s m args c cc nL own E B) (hJ : JL E B s n f H locs) (hml : nL = ls.size) {index o0 o1 N0 N1 : Nat} {a b : Row} (hlink : Cond.methodLink own index arraycopyName ∈ TW) (hnat : Cond.native arraycopyName ∈ TW) (hstat : Cond.static arraycopyName ∈ TW) (hini : Cond.initialized "java/lang/System" ∈ TW)
    (ho0 : o0 < n) (ho1 : o1 < n) (hf0 : f o0 = .inl (E.2 0, N0, .inl a)) (hf1 : f o1 = .inl (E.2 0, N1, .inl b)) {z k : Int32} {K : Nat} (hz : z = 0) (hk : k = nI K) (hK0 : K ≤ N0) (hK1 : K ≤ N1) (hKb : K < 2 ^ 31) (hframes : 1 ≤ R.frames) (hlocals : (rest.map fun v => v.category).sum + (nativeFrameWords "java/lang/System" "arraycopy" 5 + 11) ≤ R.locals) (hdg : decode cc pc = .ok (.invokestatic index, 3))
    (kk : ∀ (H1 : Heap) (locs1 : List Loc), JL E B s n (va_up f o1 (.inl (E.2 0, N1, .inl (va_cpy a b 0 0 K)))) H1 locs1 → W p l e R s m args below meth c H1 locs1 cells slots Q (F0 m (pc + 3) ls rest)) : W p l e R s m args below meth c H locs cells slots Q (F0 m pc ls (.int k :: .int z :: .ref (B + o1) :: .int z :: .ref (B + o0) :: rest)) := by
  subst hz
  subst hk
  have hts := X.2.2.2.2.1
  have hKv := X.2.2.2.2.2.1
  have hnc : (nI K).toNatClampNeg = K := nI_clamp hKb
  have hc0 : H[B + o0]? = some (vp_cell (E.2 0) (N0, .inl a)) := by have := hJ.1 o0 (B + o0, .inl (E.2 0, N0, .inl a)) (by rw [wl_at ho0, hf0]); exact this
  have he : (wl B n f)[o1]? = some (B + o1, .inl (E.2 0, N1, .inl b)) := by rw [wl_at ho1, hf1]
  have hc1 : H[B + o1]? = some (vp_cell (E.2 0) (N1, .inl b)) := hJ.1 o1 _ he
  obtain ⟨-, k0, hk0, cm0, hkk0⟩ := (hKv.2 0 _ rfl).1 N0 (fun j => .int (a j))
  obtain ⟨-, k1, hk1, cm1, hkk1⟩ := (hKv.2 0 _ rfl).1 N1 (fun j => .int (b j))
  intro T hT Xs
  have h3 : ¬ nI K < 0 := nI_pos hKb
  have hti : (nI K).toInt = (K : Int) := nI_toInt hKb
  obtain ⟨vm', X', step⟩ := Xs.arraycopy X.1 X.2.2.2.1 (hts _ hlink) (hts _ hnat) (hts _ hstat) (hts _ hini) (src := B + o0) (dst := B + o1) (cs := vp_cell (E.2 0) (N0, .inl a)) (cd := vp_cell (E.2 0) (N1, .inl b)) (srcPos := 0) (destPos := 0) (n := nI K) (by rw [hT]; exact hc0) (by rw [hT]; exact hc1)
    (fun _ h => by cases h) (fun _ h => by cases h) (fun h => by cases h) (fun h => by cases h) hk0 hk1 hkk0 hkk1 (by simp [refKind]) (by decide) (by decide) h3
    (by rw [hti]; show ¬ _ > ((arrV (E.2 0) N0 (fun j => .int (a j))).slots.size : Int); rw [arrV_size]; simp; omega)
    (by rw [hti]; show ¬ _ > ((arrV (E.2 0) N1 (fun j => .int (b j))).slots.size : Int); rw [arrV_size]; simp; omega)
    (fun vm₁ _ i hi => by
      rw [hnc] at hi
      have e : (vp_cell (E.2 0) (N0, .inl a)).slots.getD ((0 : Int32).toNatClampNeg + i) .null = .int (a ((0 : Int32).toNatClampNeg + i)) := by
        show (arrV (E.2 0) N0 (fun j => .int (a j))).slots.getD _ _ = _
        rw [Array.getD_eq_getD_getElem?, arrV_read _ _ (by show 0 + i < N0; omega)]
        rfl
      refine ⟨?_, ?_⟩
      · rw [e]; rfl
      · rw [e]; exact trivial)
    (g := F0 m pc ls (.int (nI K) :: .int 0 :: .ref (B + o1) :: .int 0 :: .ref (B + o0) :: rest)) rfl (by rw [X.2.2.1, hml]) (rest := rest) rfl (by rw [X.2.1]; exact hdg) hframes (by show 2 * 0 + _ + _ ≤ _; omega)
  have e1 : copied (vp_cell (E.2 0) (N0, .inl a)) (vp_cell (E.2 0) (N1, .inl b)) 0 0 (nI K) = vp_cell (E.2 0) (N1, .inl (va_cpy a b 0 0 K)) := by
    have h4 : (0 : Int32).toNatClampNeg + (nI K).toNatClampNeg ≤ N0 := by rw [hnc]; show 0 + K ≤ N0; omega
    have h6 : copied (vp_cell (E.2 0) (N0, .inl a)) (vp_cell (E.2 0) (N1, .inl b)) 0 0 (nI K) = vp_cell (E.2 0) (N1, .inl (va_cpy a b (0 : Int32).toNatClampNeg (0 : Int32).toNatClampNeg (nI K).toNatClampNeg)) := va_copied (fun z => .int z) (E.2 0) (E.2 0) a b h4
    rw [hnc] at h6
    exact h6
  rw [e1] at X' step
  have hl : B + o1 < H.size := (Array.getElem?_eq_some_iff.mp hc1).1
  have hheap : ((T.setVm vm').setCell (B + o1) (vp_cell (E.2 0) (N1, .inl (va_cpy a b 0 0 K)))).heap = H.setIfInBounds (B + o1) (vp_cell (E.2 0) (N1, .inl (va_cpy a b 0 0 K))) := by rw [← hT]; rfl
  have oq : ∀ q : Nat, q ≠ B + o1 → (H.setIfInBounds (B + o1) (vp_cell (E.2 0) (N1, .inl (va_cpy a b 0 0 K))))[q]? = H[q]? := fun q hq => by simp [Array.getElem?_setIfInBounds, Ne.symm hq]
  obtain ⟨t, a1, b1⟩ := kk _ _ ⟨by
      rw [← wl_set ho1]
      exact hJ.1.set wl_D he (show (H.setIfInBounds (B + o1) _)[B + o1]? = some _ by simp [Array.getElem?_setIfInBounds, hl]) oq, ⟨by simp; exact hJ.2.1.1, fun q g1 g2 => by
      rw [oq q (fun e => g2 (by rw [e]; exact Nat.le_add_right B o1))]
      exact hJ.2.1.2.1 q g1 g2, fun q hq => by
      rcases List.mem_append.mp hq with h | h
      · exact hJ.2.1.2.2 q h
      · obtain ⟨z, -, hz⟩ := List.mem_map.mp h
        rw [← hz]
        exact Nat.le_add_right B o1⟩, by simp; exact hJ.2.2⟩ _ hheap X'
  exact ⟨t, step t a1, b1⟩
end MR
