/-! an element of the script, or what stands for one behind its end -/
def cellv (xs : Nat → Int32) (L k : Nat) : Int32 := if nI L ≤ nI k then (1054469025 * (nI k + 1)) + 680876936 else xs k
def XP (b L : Nat) (xs : Nat → Int32) (B : Nat) (U : State) : Prop := va_X b L xs U U.heap ∧ b < B ∧ b < U.heap.size
theorem Pc_blindX {E : EE} {B n b L : Nat} {xs : Nat → Int32} {f : Nat → va_E} {av : List Value} : FrameBlind (va_Pc av (fun U => BP E B n f U ∧ XP b L xs B U)) := fun a U g mk h => ⟨h.1, ⟨h.2.1.1, h.2.1.2.1.same rfl rfl, h.2.1.2.2⟩, va_X.moved (Vm.Alike.refl _) h.2.2.1, h.2.2.2.1, h.2.2.2.2⟩
set_option maxHeartbeats 4000000 in
set_option maxRecDepth 100000 in
theorem mL_cell (l : Launch) (E : EE) (B : Nat) {n b L : Nat} {xs : Nat → Int32} {f : Nat → va_E} (k : Nat) (hk : k < 2 ^ 31) (hL : L ≤ 260) :
    Met l yL_cell (wsm yL_cell cL_cell 2 (some .int)) (rmm 0 0 0 0) (va_Pc [.ref b, .int (nI k)] (fun U => BP E B n f U ∧ XP b L xs B U)) (fun _ st oc t => (oc = .returned (some (.int (cellv xs L k))) ∧ BP E B n f t) ∧ va_F (fB B) st t) 0 0 (fB B) := by
  refine Met.ofW (cc := cL_cell) (maxL := 2) (ret := some .int) (by decide) rfl ?_
  intro p e s m args below meth c s₁ B₁ hml hv
  obtain ⟨rfl, ⟨hP, hBx, hsz⟩, hX, hbB, hbl⟩ := hv
  have hts0 := atoms_spec (ws := wsm yL_cell cL_cell 2 (some .int)) B₁.pre
  have hlocks := B₁.notSynchronized
  have X : Cx p s m [Value.ref b, Value.int (nI k)].toArray c cL_cell 2 RL E B := ⟨B₁.exec, B₁.bytes, hml, findClass_of_methodNamed B₁.named, fun w hw => hts0 w (List.mem_cons_of_mem _ hw), hBx⟩
  have hl := lv_entry [Value.ref b, Value.int (nI k)] (n := 2) (Nat.le_of_ble_eq_true rfl)
  rw [lg_entry_eq]
  generalize (lg_sl ([Value.ref b, Value.int (nI k)]) ++ List.replicate (2 - (lg_sl ([Value.ref b, Value.int (nI k)])).length) Slot.unset).toArray = ls at hl ⊢
  have hl : lv_has ls 2 [(0, .ref b), (1, .int (nI k))] := hl
  have hJ : JL E B s n f s.heap [] := ⟨hP, va_S.rf, hsz⟩
  have hx := X.1
  have hb := X.2.1
  have nb : ¬ fB B b := Nat.not_le.mpr hbB
  refine lv_iload_n hx hb dL_cell_0 rfl (lv_at hl 1 rfl) ?_
  refine lv_aload_n hx hb dL_cell_1 rfl (lv_at hl 0 rfl) ?_
  refine va_slen hx hb hX hbl nb hJ.2.1 dL_cell_2 ?_
  refine lv_icmp_ge (tgt := 12) hx hb dL_cell_3 (by decide) (fun q => ?_) (fun q => ?_)
  · refine lv_ldc (own := RL) hx hb X.2.2.2.1 (X.2.2.2.2.1 (.constant RL 7 1054469025) (tw (i := 353) (by decide +kernel) (by decide))) dL_cell_12 ?_
    refine lv_iload_n hx hb dL_cell_14 rfl (lv_at hl 1 rfl) ?_
    refine lv_iconst (v := 1) hx hb dL_cell_15 (by decide) ?_
    refine lv_iadd hx hb dL_cell_16 ?_
    refine lv_imul hx hb dL_cell_17 ?_
    refine lv_ldc (own := RL) hx hb X.2.2.2.1 (X.2.2.2.2.1 (.constant RL 8 680876936) (tw (i := 354) (by decide +kernel) (by decide))) dL_cell_18 ?_
    refine lv_iadd hx hb dL_cell_20 ?_
    have ev : cellv xs L k = (1054469025 * (nI k + 1)) + 680876936 := if_pos q
    rw [ev]
    exact W.zret B₁.exec B₁.bytes (B₁.returns.trans rfl) rfl (fun t ht hW => ⟨⟨rfl, hJ.BP hBx ht hW⟩, hJ.2.1.F ht⟩) hJ.2.1.2.2 dL_cell_21 hlocks
  · have hkL : k < L := by
      rcases Nat.lt_or_ge k L with z | z
      · exact z
      · exact absurd (nI_le z hk) q
    refine lv_aload_n hx hb dL_cell_6 rfl (lv_at hl 0 rfl) ?_
    refine lv_iload_n hx hb dL_cell_7 rfl (lv_at hl 1 rfl) ?_
    refine va_sld hx hb hX hbl nb hJ.2.1 (vp_in_nI hkL (by omega)) dL_cell_8 ?_
    rw [nI_clamp hk]
    refine lv_goto (tgt := 21) hx hb dL_cell_9 (by decide) ?_
    have ev : cellv xs L k = xs k := if_neg q
    rw [ev]
    exact W.zret B₁.exec B₁.bytes (B₁.returns.trans rfl) rfl (fun t ht hW => ⟨⟨rfl, hJ.BP hBx ht hW⟩, hJ.2.1.F ht⟩) hJ.2.1.2.2 dL_cell_21 hlocks
section CE
variable {p : Program} {l : Launch} {e : Env} {R : Room} {s : State} {m : MethodId} {args : Array Value} {below : List Frame} {meth : Method} {c : Code} {H : Heap} {locs : List Loc} {cells slots : Nat} {Q : State → Prop}
variable {cc : ByteArray} {nL : Nat} {E : EE} {B : Nat} {pc : Nat} {ls : Array Slot} {rest : List Value} {n : Nat} {f : Nat → va_E}
/-- a call of it -/
theorem rcell {b L : Nat} {xs : Nat → Int32} (X : Cx p s m args c cc nL RL E B) (hJ : JL E B s n f H locs) (hX : va_X b L xs s s.heap) (hbl : b < s.heap.size) (hbB : b < B) (hL : L ≤ 260) {x : Int32} {k : Nat} (ex : x = nI k) (hk : k < 2 ^ 31) (hls : ls.size = nL) (hfr : 1 ≤ R.frames ∧ 21 ≤ R.locals) (hcs : cells ≤ R.cells ∧ slots ≤ R.slots) (hW : (rest.map fun v => v.category).sum ≤ 8) (hdg : decode cc pc = .ok (.invokestatic 103, 3))
    (kk : ∀ (H1 : Heap) (locs1 : List Loc), JL E B s n f H1 locs1 → W p l e R s m args below meth c H1 locs1 cells slots Q (F0 m (pc + 3) ls (.int (cellv xs L k) :: rest))) : W p l e R s m args below meth c H locs cells slots Q (F0 m pc ls (.int x :: .ref b :: rest)) := by
  subst ex
  have hts := X.2.2.2.2.1
  have hlink : Cond.methodLink RL 103 yL_cell ∈ TW := tw (i := 350) (by decide +kernel) (by decide)
  have hG : GoodIn TW (wsS RL 103 yL_cell (wsm yL_cell cL_cell 2 (some .int))) := by
    intro w hw
    unfold wsS at hw
    rcases List.mem_append.mp hw with h | h
    · have hm : w ∈ TW := by
        simp only [List.mem_cons, List.not_mem_nil, or_false] at h
        rcases h with rfl | rfl | rfl
        · exact hlink
        · exact ts_L_cell
        · exact tn_L
      exact ⟨hm, good_TW hm⟩
    · exact good_sub tk_L_cell w h
  refine call_go (rv := some (.int (cellv xs L k))) (va_runS (As := [.ref b, .int (nI k)]) (rest := rest) ⟨X.1, X.2.1, X.2.2.1, X.2.2.2.1, hts⟩ (mL_cell l E B (n := n) (f := f) (xs := xs) k hk hL) (cwS 2 hts hG rfl rfl rfl ⟨rfl, by decide +kernel, by decide +kernel, by decide +kernel⟩ hfr) ⟨Pc_blindX, fun U hU hWm => ⟨rfl, hJ.BP X.2.2.2.2.2 hU hWm, ?_, hbB, ?_⟩⟩ rfl rfl hls rfl (lv_room hW) hdg hcs) hJ kk
  · rw [hU]
    exact (va_X.moved hWm.alike hX).kept (hJ.2.1.2.1 b hbl (Nat.not_le.mpr hbB))
  · rw [hU]
    exact Nat.lt_of_lt_of_le hbl hJ.2.1.1
end CE
/-! what holds in the law's loop -/
def LI (k : Nat) (g : GS) : Prop := WI (g.1 0) ∧ (g.1 0 4).toInt ≤ 5 * k ∧ Gn g ∧ sm (g.2.1 1) 6
theorem LI.w {k : Nat} {g : GS} (h : LI k g) : WI (g.1 0) := h.1
theorem LI.mono {k : Nat} {g : GS} (h : LI k g) : LI (k + 1) g := ⟨h.1, by have := h.2.1; omega, h.2.2⟩
theorem z_sm {n : Nat} : sm (0 : Int32) n := ⟨by decide, by rw [show (0 : Int32).toInt = 0 from by decide]; omega⟩
theorem iw_0 {j : Nat} (h4 : 4 ≤ j) (h7 : ¬ j = 7) (h : ¬ (104 ≤ j ∧ j < 168 ∧ ((j - 104) % 8 = 2 ∨ (j - 104) % 8 = 3))) : iw j = 0 := iw_z h4 h7 h
theorem sumN_0 {f : Nat → Int} : ∀ (n : Nat), (∀ k, k < n → f k = 0) → sumN f n = 0 := by
  intro n
  induction n with
  | zero => intro _; rfl
  | succ n ih =>
    intro h
    rw [sumN, ih (fun k hk => h k (by omega)), h n (by omega)]; rfl
theorem WI_iw : WI iw := by
  have t0 : (0 : Int32).toInt = 0 := by decide
  have n0 := nn_zero
  have e10 : iw 10 = 0 := iw_0 (by omega) (by omega) (by omega)
  have e5 : nn (iw 5) = 0 := by rw [iw_0 (by omega) (by omega) (by omega), n0]
  have e6 : nn (iw 6) = 0 := by rw [iw_0 (by omega) (by omega) (by omega), n0]
  have q0 : qs iw = [] := by
    unfold qs
    rw [e10, n0]; rfl
  have s : ∀ j n, 4 ≤ j → ¬ j = 7 → ¬ (104 ≤ j ∧ j < 168 ∧ ((j - 104) % 8 = 2 ∨ (j - 104) % 8 = 3)) → sm (iw j) n := fun j n a b c => by rw [iw_0 a b c]; exact z_sm
  have w2 : ∀ c, c < 8 → iw (104 + 8 * c + 2) = -6 := fun c hc => iw_6 hc (Or.inl rfl)
  refine ⟨⟨⟨s _ _ (by omega) (by omega) (by omega), s _ _ (by omega) (by omega) (by omega), s _ _ (by omega) (by omega) (by omega)⟩, fun k _ => s _ _ (by omega) (by omega) (by omega)⟩,
    ⟨by rw [q0]; exact List.nodup_nil, fun c h => by rw [q0] at h; exact absurd h (List.not_mem_nil), fun c hc => Or.inl (w2 c hc)⟩,
    fun c hc _ => ⟨iw_6 hc (Or.inr rfl), iw_0 (by omega) (by omega) (by omega)⟩,
    fun i hi => by rw [q0, iw_0 (by omega) (by omega) (by omega)]; rfl,
    fun i _ h => by omega, fun c i _ _ h => by omega,
    fun c i hc hi h => by rw [w2 c hc] at h; exact absurd h.symm (nn_neg6 (by omega)),
    by unfold WD; rw [q0]; exact List.Pairwise.nil,
    fun c hc => s _ _ (by omega) (by omega) (by omega),
    ⟨fun c _ => ?_, fun i _ => ?_, ?_, ?_⟩, ?_, ?_, ⟨fun i _ _ => ⟨iw_0 (by omega) (by omega) (by omega), iw_0 (by omega) (by omega) (by omega)⟩, fun c _ _ => ⟨iw_0 (by omega) (by omega) (by omega), iw_0 (by omega) (by omega) (by omega), iw_0 (by omega) (by omega) (by omega), iw_0 (by omega) (by omega) (by omega)⟩⟩, ?_⟩
  · unfold co; rw [iw_0 (by omega) (by omega) (by omega), t0]; omega
  · unfold tl; rw [iw_0 (by omega) (by omega) (by omega), t0]; omega
  · rw [sumN_0 8 (fun k _ => by unfold co; rw [iw_0 (by omega) (by omega) (by omega), t0]), sumN_0 12 (fun k _ => by unfold tl; rw [iw_0 (by omega) (by omega) (by omega), t0]), iw_0 (by omega) (by omega) (by omega), t0]; rfl
  · rw [iw_0 (by omega) (by omega) (by omega), t0]; omega
  · unfold WX
    rw [sumI_z (f := fun c => iw (104 + 8 * c + 5)) (a := 0) 8 (by omega) (fun k _ _ => iw_0 (by omega) (by omega) (by omega)), sumI_z (f := fun i => iw (20 + 7 * i + 5)) (a := 0) 12 (by omega) (fun k _ _ => iw_0 (by omega) (by omega) (by omega))]; rfl
  · unfold WP
    rw [sumI_z (f := fun c => iw (104 + 8 * c + 6) - iw (104 + 8 * c + 7)) (a := 0) 8 (by omega) (fun k _ _ => by
      show iw (104 + 8 * k + 6) - iw (104 + 8 * k + 7) = 0
      rw [iw_0 (by omega) (by omega) (by omega), iw_0 (by omega) (by omega) (by omega)]; decide), sumI_z (f := fun i => iw (20 + 7 * i + 4)) (a := 0) 12 (by omega) (fun k _ _ => iw_0 (by omega) (by omega) (by omega))]; rfl
  · exact ⟨⟨by decide, by decide⟩, ⟨by decide, by decide⟩, ⟨by decide, by decide⟩, ⟨by decide, by decide⟩, ⟨by decide, by decide⟩, by decide⟩
theorem LI_g0 : LI 0 g0 := by
  refine ⟨WI_iw, by show (iw 4).toInt ≤ _; decide, ⟨fun k _ => WI_iw.cn, ?_, ?_⟩, ?_⟩
  · show sm (iz 3) 80
    exact z_sm
  · show sm (iz 0) 6
    exact z_sm
  · show sm (iz 1) 6
    exact z_sm
/-! the bridges and carts with which the law begins -/
theorem addB_ok {w : Row} {x y z : Int32} (h : WI w) (hx : sm x 7) (hy : sm y 7) (hxy : ¬ x = y) (hz : sm z 1000) (hz2 : 2 ≤ z.toInt) (h5 : nn (w 5) < 12) : (sX5_addBridge w x y z).1 = nI (nn (w 5)) ∧ (sX5_addBridge w x y z).2 5 = w 5 + 1 ∧ (sX5_addBridge w x y z).2 6 = w 6 := by
  have B : ∀ v : Int32, sm v 7 → ¬ sX6_isBelow v 8 = 0 := fun v hv => by
    rw [isB_iff, show (8 : Int32).toInt = 8 from by decide]
    exact ⟨hv.1, by have := hv.2; omega⟩
  unfold sX5_addBridge
  rw [if_neg (B x hx), if_neg (B y hy), if_neg hxy, if_neg (by rw [Int32.lt_iff_toInt_lt, show (2 : Int32).toInt = 2 from by decide]; omega), if_pos (by rw [Int32.le_iff_toInt_le, show (1000 : Int32).toInt = 1000 from by decide]; exact hz.2),
    if_pos (by rw [Int32.lt_iff_toInt_lt, show (12 : Int32).toInt = 12 from by decide]; have := nn_toInt h.cn.2.1.1; omega)]
  have k := K56_draw (w := upd (upd (upd w (20 + 7 * nn (w 5)) x) (20 + 7 * nn (w 5) + 1) y) (20 + 7 * nn (w 5) + 2) z) (i := nn (w 5)) h5
  refine ⟨rfl, ?_, ?_⟩
  · dsimp only
    rw [upde, k.1, updn (by omega), updn (by omega), updn (by omega)]
  · dsimp only
    rw [updn (by omega), k.2, updn (by omega), updn (by omega), updn (by omega)]
theorem addC_ok {w : Row} {x y : Int32} (h : WI w) (hx : sm x 7) (hy : sm y 9999) (h6 : nn (w 6) < 8) : (sX5_addCart w x y).1 = nI (nn (w 6)) ∧ (sX5_addCart w x y).2 6 = w 6 + 1 := by
  unfold sX5_addCart
  rw [if_neg (by rw [isB_iff, show (8 : Int32).toInt = 8 from by decide]; exact ⟨hx.1, by have := hx.2; omega⟩), if_neg (by rw [Int32.lt_iff_toInt_lt, show (0 : Int32).toInt = 0 from by decide]; have := hy.1; omega), if_pos (by rw [Int32.le_iff_toInt_le, show (9999 : Int32).toInt = 9999 from by decide]; exact hy.2),
    if_pos (by rw [Int32.lt_iff_toInt_lt, show (8 : Int32).toInt = 8 from by decide]; have := nn_toInt h.cn.2.2.1; omega)]
  refine ⟨rfl, ?_⟩
  dsimp only
  rw [upde, updn (by omega), updn (by omega), updn (by omega)]
/-- behind a change that isn't refused -/
theorem LI_chg {k : Nat} {g : GS} {r : Int32 × Row} (h : LI k g) (hr : 0 ≤ r.1.toInt) (hw : WI r.2) (h4 : (r.2 4).toInt ≤ (g.1 0 4).toInt + 5) (hG : Gn (chg g r).2) : LI (k + 1) (chg g r).2 := by
  have a := chg_yes h.2.2.1 h.2.2.2 hr
  refine ⟨by rw [a.1]; exact hw, by rw [a.1]; have := h.2.1; omega, hG, by rw [a.2.2.2]; exact sm_nI (by omega) (by omega)⟩
