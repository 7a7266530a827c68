/-! small pure rows -/
def nn (v : Int32) : Nat := v.toNatClampNeg
def sm (v : Int32) (n : Nat) : Prop := 0 ≤ v.toInt ∧ v.toInt ≤ n
theorem nI_mul (a b : Nat) : nI a * nI b = nI (a * b) := (Int32.ofNat_mul a b).symm
theorem nI_a3 (t a c : Nat) : nI (360 * t + (a)) + nI c = nI (360 * t + (a + c)) := by rw [nI_add, Nat.add_assoc]
theorem nn_nI {n : Nat} (h : n < 2 ^ 31) : nn (nI n) = n := nI_clamp h
theorem nI_nn {v : Int32} (h : 0 ≤ v.toInt) : v = nI (nn v) := by
  have h1 : ¬ v < 0 := by rw [Int32.lt_iff_toInt_lt]; simp; omega
  obtain ⟨j, hj, rfl⟩ := nI_of h1
  rw [nn_nI hj]
theorem nn_toInt {v : Int32} (h : 0 ≤ v.toInt) : (nn v : Int) = v.toInt := by
  show ((v.toInt.toNat : Nat) : Int) = v.toInt
  omega
theorem sm.eq {v : Int32} {n : Nat} (h : sm v n) : v = nI (nn v) := nI_nn h.1
theorem sm.le {v : Int32} {n : Nat} (h : sm v n) : nn v ≤ n := by have := nn_toInt h.1; have := h.2; omega
theorem sm_nI {j n : Nat} (h : j ≤ n) (hn : n < 2 ^ 31) : sm (nI j) n := by
  have := nI_toInt (n := j) (by omega)
  exact ⟨by omega, by omega⟩
/-- a number between a bound below and a small count -/
theorem nn_lt {v c : Int32} {n : Nat} (h0 : ¬ v < 0) (h1 : ¬ c ≤ v) (hc : sm c n) : v = nI (nn v) ∧ nn v < nn c ∧ nn v < n := by
  rw [Int32.lt_iff_toInt_lt] at h0
  rw [Int32.le_iff_toInt_le] at h1
  have e : (0 : Int32).toInt = 0 := by decide
  rw [e] at h0
  have a := nn_toInt (v := v) (by omega)
  have b := nn_toInt hc.1
  have := hc.2
  exact ⟨nI_nn (by omega), by omega, by omega⟩
/-- a small count against a counter -/
theorem cnt_le {c : Int32} {n p : Nat} (hc : sm c n) (hp : p < 2 ^ 31) : c ≤ nI p ↔ nn c ≤ p := by
  rw [Int32.le_iff_toInt_le, nI_toInt hp, ← nn_toInt hc.1]; omega
def oe {β : Type} (o : Option Nat) (a : β) (f : Nat → β) : β := match o with
  | none => a
  | some c => f c
theorem oe_none {β : Type} {o : Option Nat} {a : β} {f : Nat → β} (h : o = none) : oe o a f = a := by rw [h]; rfl
theorem oe_some {β : Type} {o : Option Nat} {c : Nat} {a : β} {f : Nat → β} (h : o = some c) : oe o a f = f c := by rw [h]; rfl
def lushr (x : Int64) (y : Int32) : Int64 := (x.toUInt64 >>> (y.toInt64.toUInt64 &&& Int64.toUInt64 63)).toInt64
section XR
variable {p : Program} {l : Launch} {e : Env} {R : Room} {s : State} {m : MethodId} {args : Array Value} {below : List Frame} {meth : Method} {c : Code} {H : Heap} {locs : List Loc} {cells slots : Nat} {Q : State → Prop}
variable {cc : ByteArray} {pc : Nat} {ls : Array Slot} {rest : List Value}
theorem xiadd (hexec : p.tables.exec = Jvm.exec) (hb : c.code = cc) {x y z : Int32} (hdg : decode cc pc = .ok (.iadd, 1)) (hz : x + y = z)
    (k : W p l e R s m args below meth c H locs cells slots Q (F0 m (pc + 1) ls (.int z :: rest))) : W p l e R s m args below meth c H locs cells slots Q (F0 m pc ls (.int y :: .int x :: rest)) := lv_iadd hexec hb hdg (by rw [hz]; exact k)
theorem ximul (hexec : p.tables.exec = Jvm.exec) (hb : c.code = cc) {x y z : Int32} (hdg : decode cc pc = .ok (.imul, 1)) (hz : x * y = z)
    (k : W p l e R s m args below meth c H locs cells slots Q (F0 m (pc + 1) ls (.int z :: rest))) : W p l e R s m args below meth c H locs cells slots Q (F0 m pc ls (.int y :: .int x :: rest)) := lv_imul hexec hb hdg (by rw [hz]; exact k)
theorem rabs {nL : Nat} {own : String} {E : EE} {B index : Nat} (X : Cx p s m args c cc nL own E B) (hlink : Cond.methodLink own index Lib.Math.abs.name ∈ TW) (hls : ls.size = nL) (hfr : 1 ≤ R.frames ∧ (rest.map fun v => v.category).sum + 13 ≤ R.locals) (hcs : cells ≤ R.cells ∧ slots ≤ R.slots) {x : Int32} (hdg : decode cc pc = .ok (.invokestatic index, 3))
    (kk : W p l e R s m args below meth c H locs cells slots Q (F0 m (pc + 3) ls (.int (if 0 ≤ x then x else 0 - x) :: rest))) : W p l e R s m args below meth c H locs cells slots Q (F0 m pc ls (.int x :: rest)) :=
  va_mabs X.1 X.2.1 (by rw [X.2.2.1, hls]) X.2.2.2.1 (X.2.2.2.2.1 _ hlink) (X.2.2.2.2.1 _ tw_abs_s) (X.2.2.2.2.1 _ tw_min_i) (X.2.2.2.2.1 _ tw_abs_c) hfr.1 hfr.2 hcs.1 hcs.2 hdg kk
/-- a table's default: out of its range, or a gap in it -/
theorem rtabOut (hexec : p.tables.exec = Jvm.exec) (hb : c.code = cc) {dflt lo hi : Int} {offs : Array Int} {len : Nat} {x : Int32} {tgt : Nat} (hdg : decode cc pc = .ok (.tableswitch dflt lo hi offs, len)) (ht : (pc : Int) + dflt = (tgt : Int)) (hin : lo ≤ x.toInt → x.toInt ≤ hi → offs[(x.toInt - lo).toNat]? = some dflt)
    (k : W p l e R s m args below meth c H locs cells slots Q (F0 m tgt ls rest)) : W p l e R s m args below meth c H locs cells slots Q (F0 m pc ls (.int x :: rest)) := by
  by_cases h1 : x.toInt < lo
  · exact lv_tableOut hexec hb hdg (Or.inl h1) ht k
  by_cases h2 : hi < x.toInt
  · exact lv_tableOut hexec hb hdg (Or.inr h2) ht k
  exact lv_tableIn hexec hb hdg h1 h2 (hin (by omega) (by omega)) ht k
theorem cvt {x y : Int32} (h : x = y) (k : W p l e R s m args below meth c H locs cells slots Q (F0 m pc ls (.int y :: rest))) : W p l e R s m args below meth c H locs cells slots Q (F0 m pc ls (.int x :: rest)) := by rw [h]; exact k
end XR
theorem ne_toInt {x y : Int32} {n : Int} (h : ¬ x = y) (hy : y.toInt = n) : ¬ x.toInt = n := fun q => h (Int32.toInt_inj.mp (q.trans hy.symm))
theorem ne0_nle {y : Int32} (h : ¬ y ≤ 0) : ¬ y = 0 := fun q => h (by rw [q]; decide)

theorem lit_lt {p n : Nat} (h : ¬ nI n ≤ nI p) (hn : n < 2 ^ 31) (hp : p < 2 ^ 31) : p < n := by
  rcases Nat.lt_or_ge p n with q | q
  · exact q
  · exact absurd (nI_le q hp) h
theorem sm_rng {x : Int32} {lo hi : Nat} (h1 : ¬ x < nI lo) (h2 : x ≤ nI hi) (hl : lo < 2 ^ 31) (hh : hi < 2 ^ 31) : sm x hi := by
  rw [Int32.lt_iff_toInt_lt, nI_toInt hl] at h1
  rw [Int32.le_iff_toInt_le, nI_toInt hh] at h2
  exact ⟨by omega, by omega⟩
/-- the counts of a world are small -/
def Cn (w : Row) : Prop := sm (w 10) 8 ∧ sm (w 5) 12 ∧ sm (w 6) 8
theorem Cn_upd {w : Row} {j : Nat} {v : Int32} (h5 : ¬ j = 5) (h6 : ¬ j = 6) (h10 : ¬ j = 10) (h : Cn w) : Cn (upd w j v) := by
  have e : ∀ i, ¬ j = i → upd w j v i = w i := fun i hi => if_neg (fun q => hi q.symm)
  unfold Cn
  rw [e 10 h10, e 5 h5, e 6 h6]
  exact h
theorem Cn.lt10 {w : Row} {p : Nat} (h : Cn w) (hp : p < 2 ^ 31) (c : ¬ w 10 ≤ nI p) : p < nn (w 10) ∧ p < 8 := by
  have := (not_congr (cnt_le (p := p) h.1 hp)).mp c; have := h.1.le; omega
theorem Cn.lt5 {w : Row} {p : Nat} (h : Cn w) (hp : p < 2 ^ 31) (c : ¬ w 5 ≤ nI p) : p < nn (w 5) ∧ p < 12 := by
  have := (not_congr (cnt_le (p := p) h.2.1 hp)).mp c; have := h.2.1.le; omega
theorem Cn.lt6 {w : Row} {p : Nat} (h : Cn w) (hp : p < 2 ^ 31) (c : ¬ w 6 ≤ nI p) : p < nn (w 6) ∧ p < 8 := by
  have := (not_congr (cnt_le (p := p) h.2.2 hp)).mp c; have := h.2.2.le; omega
theorem nn_lt_lit {v : Int32} {n m : Nat} (h : v < nI n) (hv : sm v m) (hn : n < 2 ^ 31) : nn v < n := by
  rw [Int32.lt_iff_toInt_lt, nI_toInt hn] at h
  have := nn_toInt hv.1; omega
