theorem mkJ {l : Launch} {y : MethodName} {cb : ByteArray} {maxL fr lo mc ms n n' : Nat} {ret : Option FieldType} {E : EE} {B : Nat} {av : List Value} {f f' : Nat → va_E} {r : Int64} {own : String} (how : y.cls = own) (hy : plainName y.cls = true) (hret : ret = some .long) (hlen : (lg_sl av).length ≤ maxL)
    (body : ∀ (p : Program) (e : Env) (s : State) (m : MethodId) (args : Array Value) (below : List Frame) (meth : Method) (c : Code) (Q : State → Prop), Cx p s m args c cb maxL own E B →
      (∀ {H : Heap} {locs : List Loc} {pc : Nat} {ls : Array Slot} {v : Int64}, JL E B s n' f' H locs → v = r → decode cb pc = .ok (.lreturn, 1) → W p l e (rmm fr lo mc ms) s m args below meth c H locs mc ms Q (F0 m pc ls [.long v])) →
      ∀ ls : Array Slot, lv_has ls maxL (lv_args 0 av) → JL E B s n f s.heap [] → W p l e (rmm fr lo mc ms) s m args below meth c s.heap [] 0 0 Q (F0 m 0 ls [])) : Ct l y cb maxL ret fr lo mc ms E B av n f (some (.long r)) n' f' := by
  refine Met.ofW (cc := cb) (maxL := maxL) (ret := ret) hy rfl ?_
  intro p e s m args below meth c s₁ B₁ hml hv
  obtain ⟨rfl, hP, hBx, hsz⟩ := hv
  have hts0 := atoms_spec (ws := wsm y cb maxL ret) B₁.pre
  have hlocks := B₁.notSynchronized
  have hX : Cx p s m av.toArray c cb maxL own E B := ⟨B₁.exec, B₁.bytes, hml, by rw [← how]; exact findClass_of_methodNamed B₁.named, fun w hw => hts0 w (List.mem_cons_of_mem _ hw), hBx⟩
  have hl := lv_entry av (n := maxL) hlen
  rw [lg_entry_eq]
  refine body p e s m av.toArray below meth c _ hX ?_ _ hl ⟨hP, va_S.rf, hsz⟩
  intro H locs pc ls v hJ hvr hdg
  subst hvr
  exact W.lret B₁.exec B₁.bytes (B₁.returns.trans hret) (fun t ht hW => ⟨⟨rfl, hJ.BP hBx ht hW⟩, hJ.2.1.F ht⟩) hJ.2.1.2.2 hdg hlocks
theorem Gn_sX2_takeBack {g : GS} (h : Gn g) : Gn (sX2_takeBack g) := by
  have hs : sm ((((g.2.1 0) + 7) - 1) - (((g.2.1 0) + 7) - 1) / 7 * 7) 6 := by
    rw [sp7b h.2.2]
    exact sm_nI (by omega) (by omega)
  unfold sX2_takeBack
  exact Gn_upW (Gn_upC (Gn_upC h ⟨Pd_upd (by decide) h.2.1, hs⟩) ⟨Pd_upd (by decide) (Pd_upd (by decide) h.2.1), Sp_upd (by decide) hs⟩) (h.1 _ (by omega))
theorem Gn_sX6_recorded {g : GS} {r : Int32}  (h : Gn g) : Gn (sX6_recorded g r).2 := by
  unfold sX6_recorded
  exact Gn_i2 (Gn_p2 (h)) (Gn_p2 (Gn_upC (h) (⟨Pd_sX2_keepNoted ((h).2.1), Sp_sX2_keepNoted ((h).2.2)⟩)))
theorem Gn_sX6_set {g : GS} {x : Int32} {y : Int32}  (h : Gn g) : Gn (sX6_set g x y).2 := by
  unfold sX6_set
  exact Gn_p2 (Gn_sX6_recorded (Gn_upW (Gn_note (h)) (Cn_changeSetting ((Gn_note (h)).1 0 (by omega)))))
theorem Gn_sX6_bridge {g : GS} {x : Int32} {y : Int32} {z : Int32}  (h : Gn g) : Gn (sX6_bridge g x y z).2 := by
  unfold sX6_bridge
  exact Gn_p2 (Gn_sX6_recorded (Gn_upW (Gn_note (h)) (Cn_addBridge ((Gn_note (h)).1 0 (by omega)))))
theorem Gn_sX6_cart {g : GS} {x : Int32} {y : Int32}  (h : Gn g) : Gn (sX6_cart g x y).2 := by
  unfold sX6_cart
  exact Gn_p2 (Gn_sX6_recorded (Gn_upW (Gn_note (h)) (Cn_addCart ((Gn_note (h)).1 0 (by omega)))))
theorem Gn_sX6_guess {g : GS} {x : Int32} {y : Int32} {z : Int32}  (h : Gn g) : Gn (sX6_guess g x y z).2 := by
  unfold sX6_guess
  exact Gn_p2 (Gn_sX6_recorded (Gn_upW (Gn_note (h)) (Cn_comeToWait ((Gn_note (h)).1 0 (by omega)))))
theorem Gn_sX6_leave {g : GS} {x : Int32}  (h : Gn g) : Gn (sX6_leave g x).2 := by
  unfold sX6_leave
  exact Gn_p2 (Gn_sX6_recorded (Gn_upW (Gn_note (h)) (Cn_stopWaiting ((Gn_note (h)).1 0 (by omega)))))
theorem Gn_sX6_hint {g : GS} {x : Int32} {y : Int32}  (h : Gn g) : Gn (sX6_hint g x y).2 := by
  unfold sX6_hint
  exact Gn_p2 (Gn_sX6_recorded (Gn_upW (Gn_note (h)) (Cn_buyHint ((Gn_note (h)).1 0 (by omega)))))
theorem Gn_sX6_pass {g : GS} {x : Int32}  (h : Gn g) : Gn (sX6_pass g x).2 := by
  unfold sX6_pass
  exact Gn_p2 (Gn_sX6_recorded (Gn_upW (Gn_note (h)) (Cn_passHours ((Gn_note (h)).1 0 (by omega)))))
theorem Gn_sX6_undo {g : GS}  (h : Gn g) : Gn (sX6_undo g).2 := by
  unfold sX6_undo
  exact Gn_i2 (Gn_p2 (h)) (Gn_p2 (Gn_sX2_takeBack (h)))
theorem Gn_bX6_overIn_38 {x : Int32}  : ∀ (n : Nat) (g38 : GS) (q : Nat) (p : Nat), Gn g38 → Gn (bX6_overIn_38 x n g38 q p).2 := by
  intro n
  induction n with
  | zero => intro g38 q p h; exact h
  | succ n ih =>
    intro g38 q p h
    rw [bX6_overIn_38]
    exact Gn_i2 (Gn_p2 (h)) (Gn_i2 (Gn_p2 (Gn_upW (h) (Cn_playHour ((h).1 1 (by omega))))) (ih _ _ _ (Gn_upW (h) (Cn_playHour ((h).1 1 (by omega))))))
theorem Gn_sX6_overIn {g : GS} {x : Int32}  (h : Gn g) : Gn (sX6_overIn g x).2 := by
  unfold sX6_overIn
  exact Gn_o2 (Gn_p2 (Gn_upW (h) ((h).1 0 (by omega)))) (fun q1 => Gn_i2 (Gn_p2 (Gn_upW (h) ((h).1 0 (by omega)))) (Gn_bX6_overIn_38 _ _ _ _ (Gn_upW (h) ((h).1 0 (by omega)))))
theorem Gn_bX6_would_38 {x : Int32} {y : Int32}  : ∀ (n : Nat) (g38 : GS) (ov : Int32) (p : Nat), Gn g38 → Gn (bX6_would_38 x y n g38 ov p).2 := by
  intro n
  induction n with
  | zero => intro g38 ov p h; exact h
  | succ n ih =>
    intro g38 ov p h
    rw [bX6_would_38]
    exact Gn_i2 (Gn_i2 (Gn_p2 (h)) (Gn_i2 (Gn_p2 (h)) (Gn_i2 (Gn_p2 (h)) (Gn_p2 (h))))) (ih _ _ _ (Gn_upW (h) (Cn_playHour ((h).1 1 (by omega)))))
theorem Gn_sX6_would {g : GS} {x : Int32} {y : Int32}  (h : Gn g) : Gn (sX6_would g x y).2 := by
  unfold sX6_would
  exact Gn_i2 (Gn_p2 (h)) (Gn_i2 (Gn_p2 (h)) (Gn_i2 (Gn_p2 (h)) (Gn_bX6_would_38 _ _ _ _ (Gn_upW (h) ((h).1 0 (by omega))))))
theorem Sp_o2 {β : Type} {o : Option Nat} {a : β × Row} {f : Nat → β × Row} (h1 : Sp a.2) (h2 : ∀ q, Sp (f q).2) : Sp (oe o a f).2 := by
  cases o with
  | none => exact h1
  | some q => exact h2 q
theorem Sp_ov {o : Option Nat} {a : Row} {f : Nat → Row} (h1 : Sp a) (h2 : ∀ q, Sp (f q)) : Sp (oe o a f) := by
  cases o with
  | none => exact h1
  | some q => exact h2 q
theorem Sp_bX6_appendNote_62 {w : Row} {ct : Nat}  : ∀ (n : Nat) (u62 : Row) (p : Nat), Sp u62 → Sp (bX6_appendNote_62 w ct n u62 p) := by
  intro n
  induction n with
  | zero => intro u62 p h; exact h
  | succ n ih =>
    intro u62 p h
    rw [bX6_appendNote_62]
    exact Sp_iv (h) (Sp_ov (ih _ _ (h)) (fun q1 => Sp_iv (ih _ _ (h)) (ih _ _ (Sp_sX4_appendNumber (Sp_sX4_append (Sp_sX4_appendNumber (Sp_sX4_append (Sp_sX4_appendNumber (Sp_sX4_append (h))))))))))
theorem Sp_sX6_appendNote {u : Row} {w : Row} {ct : Nat}  (h : Sp u) : Sp (sX6_appendNote u w ct) := by
  unfold sX6_appendNote
  exact Sp_bX6_appendNote_62 _ _ _ (Sp_sX4_appendNumber (Sp_sX4_append (Sp_sX4_appendNumber (Sp_sX4_append (Sp_sX4_appendNumber (Sp_sX4_append (h)))))))
theorem Sp_sX6_write {u : Row} {w : Row} {x : Int32}  (h : Sp u) : Sp (sX6_write u w x).2 := by
  unfold sX6_write
  exact Sp_o2 (Sp_p2 (h)) (fun q1 => Sp_p2 (Sp_sX6_appendNote (Sp_sX4_clear (h))))
theorem Sp_sX6_wipe {u : Row}  (h : Sp u) : Sp (sX6_wipe u).2 := by
  unfold sX6_wipe
  exact Sp_p2 (Sp_sX4_clear (h))
theorem Pd_sX6_write {u : Row} {w : Row} {x : Int32}  (h : Pd u) : Pd (sX6_write u w x).2 := by
  unfold sX6_write
  exact Pd_o2 (Pd_p2 (h)) (fun q1 => Pd_p2 (Pd_sX6_appendNote (Pd_clear_of (h))))
theorem Pd_sX6_wipe {u : Row}  (h : Pd u) : Pd (sX6_wipe u).2 := by
  unfold sX6_wipe
  exact Pd_p2 (Pd_clear_of (h))
