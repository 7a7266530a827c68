/-! reading and writing at the picture, a theorem a link of the constant pools -/
theorem inT0 : ∀ w ∈ u_ws RX0 TX0 9, w ∈ TW := by
  intro w hw
  obtain ⟨k, hk, rfl⟩ := List.mem_map.mp hw
  have hk := List.mem_range.mp hk
  have h0 : u_lay RX0 TX0 0 ∈ TW := tw (i := 69) (by decide +kernel) (by decide +kernel)
  have h1 : u_lay RX0 TX0 1 ∈ TW := tw (i := 71) (by decide +kernel) (by decide +kernel)
  have h2 : u_lay RX0 TX0 2 ∈ TW := tw (i := 73) (by decide +kernel) (by decide +kernel)
  have h3 : u_lay RX0 TX0 3 ∈ TW := tw (i := 75) (by decide +kernel) (by decide +kernel)
  have h4 : u_lay RX0 TX0 4 ∈ TW := tw (i := 77) (by decide +kernel) (by decide +kernel)
  have h5 : u_lay RX0 TX0 5 ∈ TW := tw (i := 79) (by decide +kernel) (by decide +kernel)
  have h6 : u_lay RX0 TX0 6 ∈ TW := tw (i := 81) (by decide +kernel) (by decide +kernel)
  have h7 : u_lay RX0 TX0 7 ∈ TW := tw (i := 83) (by decide +kernel) (by decide +kernel)
  have h8 : u_lay RX0 TX0 8 ∈ TW := tw (i := 85) (by decide +kernel) (by decide +kernel)
  match k, hk with
  | 0, _ => exact h0
  | 1, _ => exact h1
  | 2, _ => exact h2
  | 3, _ => exact h3
  | 4, _ => exact h4
  | 5, _ => exact h5
  | 6, _ => exact h6
  | 7, _ => exact h7
  | 8, _ => exact h8
  | k + 9, hk => exact absurd hk (by omega)
theorem inT1 : ∀ w ∈ u_ws RX1 TX1 11, w ∈ TW := by
  intro w hw
  obtain ⟨k, hk, rfl⟩ := List.mem_map.mp hw
  have hk := List.mem_range.mp hk
  have h0 : u_lay RX1 TX1 0 ∈ TW := tw (i := 115) (by decide +kernel) (by decide +kernel)
  have h1 : u_lay RX1 TX1 1 ∈ TW := tw (i := 117) (by decide +kernel) (by decide +kernel)
  have h2 : u_lay RX1 TX1 2 ∈ TW := tw (i := 119) (by decide +kernel) (by decide +kernel)
  have h3 : u_lay RX1 TX1 3 ∈ TW := tw (i := 121) (by decide +kernel) (by decide +kernel)
  have h4 : u_lay RX1 TX1 4 ∈ TW := tw (i := 123) (by decide +kernel) (by decide +kernel)
  have h5 : u_lay RX1 TX1 5 ∈ TW := tw (i := 125) (by decide +kernel) (by decide +kernel)
  have h6 : u_lay RX1 TX1 6 ∈ TW := tw (i := 127) (by decide +kernel) (by decide +kernel)
  have h7 : u_lay RX1 TX1 7 ∈ TW := tw (i := 129) (by decide +kernel) (by decide +kernel)
  have h8 : u_lay RX1 TX1 8 ∈ TW := tw (i := 131) (by decide +kernel) (by decide +kernel)
  have h9 : u_lay RX1 TX1 9 ∈ TW := tw (i := 133) (by decide +kernel) (by decide +kernel)
  have h10 : u_lay RX1 TX1 10 ∈ TW := tw (i := 135) (by decide +kernel) (by decide +kernel)
  match k, hk with
  | 0, _ => exact h0
  | 1, _ => exact h1
  | 2, _ => exact h2
  | 3, _ => exact h3
  | 4, _ => exact h4
  | 5, _ => exact h5
  | 6, _ => exact h6
  | 7, _ => exact h7
  | 8, _ => exact h8
  | 9, _ => exact h9
  | 10, _ => exact h10
  | k + 11, hk => exact absurd hk (by omega)
theorem inT2 : ∀ w ∈ u_ws RX2 TX2 3, w ∈ TW := by
  intro w hw
  obtain ⟨k, hk, rfl⟩ := List.mem_map.mp hw
  have hk := List.mem_range.mp hk
  have h0 : u_lay RX2 TX2 0 ∈ TW := tw (i := 185) (by decide +kernel) (by decide +kernel)
  have h1 : u_lay RX2 TX2 1 ∈ TW := tw (i := 187) (by decide +kernel) (by decide +kernel)
  have h2 : u_lay RX2 TX2 2 ∈ TW := tw (i := 189) (by decide +kernel) (by decide +kernel)
  match k, hk with
  | 0, _ => exact h0
  | 1, _ => exact h1
  | 2, _ => exact h2
  | k + 3, hk => exact absurd hk (by omega)
theorem inT3 : ∀ w ∈ u_ws RX3 TX3 6, w ∈ TW := by
  intro w hw
  obtain ⟨k, hk, rfl⟩ := List.mem_map.mp hw
  have hk := List.mem_range.mp hk
  have h0 : u_lay RX3 TX3 0 ∈ TW := tw (i := 214) (by decide +kernel) (by decide +kernel)
  have h1 : u_lay RX3 TX3 1 ∈ TW := tw (i := 216) (by decide +kernel) (by decide +kernel)
  have h2 : u_lay RX3 TX3 2 ∈ TW := tw (i := 218) (by decide +kernel) (by decide +kernel)
  have h3 : u_lay RX3 TX3 3 ∈ TW := tw (i := 220) (by decide +kernel) (by decide +kernel)
  have h4 : u_lay RX3 TX3 4 ∈ TW := tw (i := 222) (by decide +kernel) (by decide +kernel)
  have h5 : u_lay RX3 TX3 5 ∈ TW := tw (i := 224) (by decide +kernel) (by decide +kernel)
  match k, hk with
  | 0, _ => exact h0
  | 1, _ => exact h1
  | 2, _ => exact h2
  | 3, _ => exact h3
  | 4, _ => exact h4
  | 5, _ => exact h5
  | k + 6, hk => exact absurd hk (by omega)
theorem inT4 : ∀ w ∈ u_ws RX4 TX4 2, w ∈ TW := by
  intro w hw
  obtain ⟨k, hk, rfl⟩ := List.mem_map.mp hw
  have hk := List.mem_range.mp hk
  have h0 : u_lay RX4 TX4 0 ∈ TW := tw (i := 201) (by decide +kernel) (by decide +kernel)
  have h1 : u_lay RX4 TX4 1 ∈ TW := tw (i := 203) (by decide +kernel) (by decide +kernel)
  match k, hk with
  | 0, _ => exact h0
  | 1, _ => exact h1
  | k + 2, hk => exact absurd hk (by omega)
theorem inT5 : ∀ w ∈ u_ws RX5 TX5 11, w ∈ TW := by
  intro w hw
  obtain ⟨k, hk, rfl⟩ := List.mem_map.mp hw
  have hk := List.mem_range.mp hk
  have h0 : u_lay RX5 TX5 0 ∈ TW := tw (i := 149) (by decide +kernel) (by decide +kernel)
  have h1 : u_lay RX5 TX5 1 ∈ TW := tw (i := 151) (by decide +kernel) (by decide +kernel)
  have h2 : u_lay RX5 TX5 2 ∈ TW := tw (i := 153) (by decide +kernel) (by decide +kernel)
  have h3 : u_lay RX5 TX5 3 ∈ TW := tw (i := 155) (by decide +kernel) (by decide +kernel)
  have h4 : u_lay RX5 TX5 4 ∈ TW := tw (i := 157) (by decide +kernel) (by decide +kernel)
  have h5 : u_lay RX5 TX5 5 ∈ TW := tw (i := 159) (by decide +kernel) (by decide +kernel)
  have h6 : u_lay RX5 TX5 6 ∈ TW := tw (i := 161) (by decide +kernel) (by decide +kernel)
  have h7 : u_lay RX5 TX5 7 ∈ TW := tw (i := 163) (by decide +kernel) (by decide +kernel)
  have h8 : u_lay RX5 TX5 8 ∈ TW := tw (i := 165) (by decide +kernel) (by decide +kernel)
  have h9 : u_lay RX5 TX5 9 ∈ TW := tw (i := 167) (by decide +kernel) (by decide +kernel)
  have h10 : u_lay RX5 TX5 10 ∈ TW := tw (i := 169) (by decide +kernel) (by decide +kernel)
  match k, hk with
  | 0, _ => exact h0
  | 1, _ => exact h1
  | 2, _ => exact h2
  | 3, _ => exact h3
  | 4, _ => exact h4
  | 5, _ => exact h5
  | 6, _ => exact h6
  | 7, _ => exact h7
  | 8, _ => exact h8
  | 9, _ => exact h9
  | 10, _ => exact h10
  | k + 11, hk => exact absurd hk (by omega)
theorem inT6 : ∀ w ∈ u_ws RX6 TX6 7, w ∈ TW := by
  intro w hw
  obtain ⟨k, hk, rfl⟩ := List.mem_map.mp hw
  have hk := List.mem_range.mp hk
  have h0 : u_lay RX6 TX6 0 ∈ TW := tw (i := 234) (by decide +kernel) (by decide +kernel)
  have h1 : u_lay RX6 TX6 1 ∈ TW := tw (i := 236) (by decide +kernel) (by decide +kernel)
  have h2 : u_lay RX6 TX6 2 ∈ TW := tw (i := 238) (by decide +kernel) (by decide +kernel)
  have h3 : u_lay RX6 TX6 3 ∈ TW := tw (i := 240) (by decide +kernel) (by decide +kernel)
  have h4 : u_lay RX6 TX6 4 ∈ TW := tw (i := 242) (by decide +kernel) (by decide +kernel)
  have h5 : u_lay RX6 TX6 5 ∈ TW := tw (i := 244) (by decide +kernel) (by decide +kernel)
  have h6 : u_lay RX6 TX6 6 ∈ TW := tw (i := 246) (by decide +kernel) (by decide +kernel)
  match k, hk with
  | 0, _ => exact h0
  | 1, _ => exact h1
  | 2, _ => exact h2
  | 3, _ => exact h3
  | 4, _ => exact h4
  | 5, _ => exact h5
  | 6, _ => exact h6
  | k + 7, hk => exact absurd hk (by omega)
abbrev bF (w : Row) (i : Nat) : List Value := [.int (nI i), .int (w (20 + 7 * i)), .int (w (20 + 7 * i + 1)), .int (w (20 + 7 * i + 2)), .int (w (20 + 7 * i + 3)), .int (w (360 + i)), .int (w (20 + 7 * i + 4)), .int (w (20 + 7 * i + 5)), .int (w (20 + 7 * i + 6))]
abbrev cF (B k : Nat) (w : Row) (i : Nat) : List Value := [.int (nI i), .int (w (104 + 8 * i)), .int (w (104 + 8 * i + 1)), .int (w (104 + 8 * i + 2)), .int (w (104 + 8 * i + 3)), .int (w (104 + 8 * i + 4)), .int (w (104 + 8 * i + 5)), .int (w (104 + 8 * i + 6)), .int (w (104 + 8 * i + 7)), .ref (B + (wo k + (18 + 3 * i))), .ref (B + (wo k + (19 + 3 * i)))]
abbrev wF (B k : Nat) (w : Row) : List Value := [.ref (B + (wo k + 1)), .ref (B + (wo k + 2)), .ref (B + (wo k + 3)), .ref (B + (wo k + 4)), .int (w 10), .int (w 5), .int (w 6), .int (w 7), .int (w 4), .int (w 8), .int (w 9)]
abbrev hF (B : Nat) (w : Row) : List Value := [.ref (B + 84), .int (w 0), .int (w 1)]
abbrev oF (B : Nat) (w : Row) : List Value := [.ref (B + 456), .int (w 4), .int (w 5), .int (w 6), .int (w 7), .int (w 8)]
abbrev pF (B : Nat) (w : Row) : List Value := [.ref (B + 457), .int (w 3)]
abbrev xF (B : Nat) : List Value := [.ref (B + wo 0), .ref (B + wo 1), .ref (B + 83), .ref (B + 372), .ref (B + 455), .ref (B + 456), .ref (B + 458)]
section AT
variable {E : EE} {B k i : Nat} {g : GS} {w : Row}
theorem pw_B (hi : i < 12) : pw E B k w (5 + i) = .inr (0, bF w i) := by
  unfold pw
  rw [if_neg (by omega), if_neg (by omega), if_neg (by omega), if_neg (by omega), if_neg (by omega), if_pos (by omega), show 5 + i - 5 = i by omega]
theorem pw_C (hi : i < 8) : pw E B k w (17 + 3 * i) = .inr (1, cF B k w i) := by
  unfold pw
  rw [if_neg (by omega), if_neg (by omega), if_neg (by omega), if_neg (by omega), if_neg (by omega), if_neg (by omega), if_pos (by omega), show (17 + 3 * i - 17) / 3 = i by omega]
theorem pw_lo (hi : i < 8) : pw E B k w (18 + 3 * i) = .inl (E.2 0, 12, .inl (tr 12 (fun j => w (168 + 2 * (12 * i + j))))) := by
  unfold pw
  rw [if_neg (by omega), if_neg (by omega), if_neg (by omega), if_neg (by omega), if_neg (by omega), if_neg (by omega), if_neg (by omega), if_pos (by omega), show (18 + 3 * i - 17) / 3 = i by omega]
theorem pw_hi (hi : i < 8) : pw E B k w (19 + 3 * i) = .inl (E.2 0, 12, .inl (tr 12 (fun j => w (168 + 2 * (12 * i + j) + 1)))) := by
  unfold pw
  rw [if_neg (by omega), if_neg (by omega), if_neg (by omega), if_neg (by omega), if_neg (by omega), if_neg (by omega), if_neg (by omega), if_neg (by omega), show (19 + 3 * i - 17) / 3 = i by omega]
theorem at_B (hk : k < 11) (hi : i < 12) (hw : g.1 k = w) : pcT E B g (wo k + (5 + i)) = .inr (0, bF w i) := by rw [pcT_W hk (by omega), hw, pw_B hi]
theorem at_C (hk : k < 11) (hi : i < 8) (hw : g.1 k = w) : pcT E B g (wo k + (17 + 3 * i)) = .inr (1, cF B k w i) := by rw [pcT_W hk (by omega), hw, pw_C hi]
theorem at_lo (hk : k < 11) (hi : i < 8) (hw : g.1 k = w) : pcT E B g (wo k + (18 + 3 * i)) = .inl (E.2 0, 12, .inl (tr 12 (fun j => w (168 + 2 * (12 * i + j))))) := by rw [pcT_W hk (by omega), hw, pw_lo hi]
theorem at_hi (hk : k < 11) (hi : i < 8) (hw : g.1 k = w) : pcT E B g (wo k + (19 + 3 * i)) = .inl (E.2 0, 12, .inl (tr 12 (fun j => w (168 + 2 * (12 * i + j) + 1)))) := by rw [pcT_W hk (by omega), hw, pw_hi hi]
theorem at_W (hk : k < 11) (hw : g.1 k = w) : pcT E B g (wo k) = .inr (5, wF B k w) := by
  have := pcT_W (E := E) (B := B) (g := g) (r := 0) hk (by omega)
  rw [hw] at this
  exact this
theorem at_stg (hk : k < 11) (hw : g.1 k = w) : pcT E B g (wo k + 1) = .inl (E.2 0, 4, .inl (tr 4 w)) := by rw [pcT_W hk (by omega), hw]; rfl
theorem at_brs (hk : k < 11) : pcT E B g (wo k + 2) = .inl (E.2 2, 12, rfs 12 (fun i => B + (wo k + (5 + i)))) := by rw [pcT_W hk (by omega)]; rfl
theorem at_cts (hk : k < 11) : pcT E B g (wo k + 3) = .inl (E.2 3, 8, rfs 8 (fun i => B + (wo k + (17 + 3 * i)))) := by rw [pcT_W hk (by omega)]; rfl
theorem at_line (hk : k < 11) (hw : g.1 k = w) : pcT E B g (wo k + 4) = .inl (E.2 0, 8, .inl (tr 8 (fun j => w (12 + j)))) := by rw [pcT_W hk (by omega), hw]; rfl
theorem at_H (hw : g.2.1 = w) : pcT E B g 83 = .inr (2, hF B w) := by rw [pcT_83, hw]
theorem at_O (hw : g.2.1 = w) : pcT E B g 458 = .inr (3, oF B w) := by rw [pcT_458, hw]
theorem at_P (hw : g.2.1 = w) : pcT E B g 456 = .inr (4, pF B w) := by rw [pcT_456, hw]
theorem at_X : pcT E B g 0 = .inr (6, xF B) := pcT_0
theorem lt_W {r : Nat} (hk : k < 11) (hr : r < 41) : wo k + r < 459 := by have := wo_lt hk; omega
theorem lt_W0 (hk : k < 11) : wo k < 459 := by have := wo_lt hk; omega
theorem ow_B {f : Nat} (hi : i < 12) (hf : f < 7) : ow (20 + 7 * i + f) = 5 + i := by
  unfold ow; rw [if_neg (by omega), if_neg (by omega), if_neg (by omega), if_pos (by omega)]; omega
theorem ow_Bw (hi : i < 12) : ow (360 + i) = 5 + i := by
  unfold ow; rw [if_neg (by omega), if_neg (by omega), if_neg (by omega), if_neg (by omega), if_neg (by omega), if_neg (by omega)]; omega
theorem ow_C {f : Nat} (hi : i < 8) (hf : f < 8) : ow (104 + 8 * i + f) = 17 + 3 * i := by
  unfold ow; rw [if_neg (by omega), if_neg (by omega), if_neg (by omega), if_neg (by omega), if_pos (by omega)]; omega
theorem ow_lo {j : Nat} (hi : i < 8) (hj : j < 12) : ow (168 + 2 * (12 * i + j)) = 18 + 3 * i := by
  unfold ow; rw [if_neg (by omega), if_neg (by omega), if_neg (by omega), if_neg (by omega), if_neg (by omega), if_pos (by omega)]; omega
theorem ow_hi {j : Nat} (hi : i < 8) (hj : j < 12) : ow (168 + 2 * (12 * i + j) + 1) = 19 + 3 * i := by
  unfold ow; rw [if_neg (by omega), if_neg (by omega), if_neg (by omega), if_neg (by omega), if_neg (by omega), if_pos (by omega)]; omega
theorem ow_line {j : Nat} (hj : j < 8) : ow (12 + j) = 4 := by
  unfold ow; rw [if_neg (by omega), if_neg (by omega), if_pos (by omega)]
theorem ow_set {j : Nat} (hj : j < 4) : ow j = 1 := by unfold ow; rw [if_pos hj]
theorem tr_upd {n j : Nat} {a b : Row} {v : Int32} (h : ∀ i, i < n → b i = upd a j v i) : upd (tr n a) j v = upd (tr n a) j v := rfl
theorem tr_put {n j : Nat} {a b : Row} {v : Int32} (hj : j < n) (h : ∀ i, i < n → b i = if i = j then v else a i) : tr n b = upd (tr n a) j v := by
  funext i
  unfold tr upd
  by_cases hi : i < n
  · rw [if_pos hi, h i hi]
    show _ = if i = j then v else if i < n then a i else 0
    rw [if_pos hi]
  · rw [if_neg hi, if_neg (by omega)]
    show _ = if i < n then a i else 0
    rw [if_neg hi]
theorem JL.upW {s : State} {H : Heap} {locs : List Loc} {j r : Nat} {v : Int32} {e : va_E} (h : JL E B s 459 (va_up (pcT E B (upW g k w)) (wo k + r) e) H locs) (hk : k < 11) (hr : r < 41) (ho : ow j = r) (he : pw E B k (upd w j v) r = e) : JG E B s (upW g k (upd w j v)) H locs := by
  subst ho
  rw [pcT_up hk hr he] at h
  exact h
theorem JL.upC {s : State} {H : Heap} {locs : List Loc} {j r : Nat} {v : Int32} {e : va_E} (h : JL E B s 459 (va_up (pcT E B (upC g w)) r e) H locs) (ho : oc j = r) (hr : r < 459) (he : pcT E B (upC g (upd w j v)) r = e) : JG E B s (upC g (upd w j v)) H locs := by
  subst ho
  have := pcT_upC (v := v) hr he
  exact ⟨by rw [← this]; exact h.1, h.2⟩
end AT
section LK
variable {p : Program} {l : Launch} {e : Env} {R : Room} {s : State} {m : MethodId} {args : Array Value} {below : List Frame} {meth : Method} {c : Code} {H : Heap} {locs : List Loc} {cells slots : Nat} {Q : State → Prop}
variable {cc : ByteArray} {nL : Nat} {E : EE} {B : Nat} {pc : Nat} {ls : Array Slot} {rest : List Value} {n : Nat} {f : Nat → va_E} {g : GS} {k : Nat} {w : Row} {v : Int32} {own : String}

theorem ld_set (X : Cx p s m args c cc nL own E B) (hJ : JG E B s g H locs) (hk : k < 11) (hw : g.1 k = w) {x : Int32} {j : Nat} (hi : x = nI j) (hj : j < 4) (hdg : decode cc pc = .ok (.iaload, 1))
    (kk : W p l e R s m args below meth c H locs cells slots Q (F0 m (pc + 1) ls (.int (w j) :: rest))) : W p l e R s m args below meth c H locs cells slots Q (F0 m pc ls (.int x :: .ref (B + (wo k + 1)) :: rest)) :=
  rald X hJ (lt_W hk (by omega)) (at_stg hk hw) hi hj (by decide) hdg (by rw [tr_at hj]; exact kk)
theorem ld_line (X : Cx p s m args c cc nL own E B) (hJ : JG E B s g H locs) (hk : k < 11) (hw : g.1 k = w) {x : Int32} {j : Nat} (hi : x = nI j) (hj : j < 8) (hdg : decode cc pc = .ok (.iaload, 1))
    (kk : W p l e R s m args below meth c H locs cells slots Q (F0 m (pc + 1) ls (.int (w (12 + j)) :: rest))) : W p l e R s m args below meth c H locs cells slots Q (F0 m pc ls (.int x :: .ref (B + (wo k + 4)) :: rest)) :=
  rald X hJ (lt_W hk (by omega)) (at_line hk hw) hi hj (by decide) hdg (by rw [tr_at hj]; exact kk)
theorem ld_lo (X : Cx p s m args c cc nL own E B) (hJ : JG E B s g H locs) {i : Nat} (hk : k < 11) (hic : i < 8) (hw : g.1 k = w) {x : Int32} {j : Nat} (hi : x = nI j) (hj : j < 12) (hdg : decode cc pc = .ok (.iaload, 1))
    (kk : W p l e R s m args below meth c H locs cells slots Q (F0 m (pc + 1) ls (.int (w (168 + 2 * (12 * i + j))) :: rest))) : W p l e R s m args below meth c H locs cells slots Q (F0 m pc ls (.int x :: .ref (B + (wo k + (18 + 3 * i))) :: rest)) :=
  rald X hJ (lt_W hk (by omega)) (at_lo hk hic hw) hi hj (by decide) hdg (by rw [tr_at hj]; exact kk)
theorem ld_hi (X : Cx p s m args c cc nL own E B) (hJ : JG E B s g H locs) {i : Nat} (hk : k < 11) (hic : i < 8) (hw : g.1 k = w) {x : Int32} {j : Nat} (hi : x = nI j) (hj : j < 12) (hdg : decode cc pc = .ok (.iaload, 1))
    (kk : W p l e R s m args below meth c H locs cells slots Q (F0 m (pc + 1) ls (.int (w (168 + 2 * (12 * i + j) + 1)) :: rest))) : W p l e R s m args below meth c H locs cells slots Q (F0 m pc ls (.int x :: .ref (B + (wo k + (19 + 3 * i))) :: rest)) :=
  rald X hJ (lt_W hk (by omega)) (at_hi hk hic hw) hi hj (by decide) hdg (by rw [tr_at hj]; exact kk)
theorem ld_codes (X : Cx p s m args c cc nL own E B) (hJ : JG E B s g H locs) (hw : g.2.1 = w) {x : Int32} {j : Nat} (hi : x = nI j) (hj : j < 80) (hdg : decode cc pc = .ok (.iaload, 1))
    (kk : W p l e R s m args below meth c H locs cells slots Q (F0 m (pc + 1) ls (.int (w (100 + j)) :: rest))) : W p l e R s m args below meth c H locs cells slots Q (F0 m pc ls (.int x :: .ref (B + 457) :: rest)) :=
  rald X hJ (by omega) (show _ = _ from by rw [pcT_457, hw]) hi hj (by decide) hdg (by rw [tr_at hj]; exact kk)
theorem ld_saved (X : Cx p s m args c cc nL own E B) (hJ : JG E B s g H locs) (hw : g.2.1 = w) {x : Int32} {j : Nat} (hi : x = nI j) (hj : j < 2) (hdg : decode cc pc = .ok (.baload, 1))
    (kk : W p l e R s m args below meth c H locs cells slots Q (F0 m (pc + 1) ls (.int (w (10 + j)) :: rest))) : W p l e R s m args below meth c H locs cells slots Q (F0 m pc ls (.int x :: .ref (B + 455) :: rest)) :=
  rzld X hJ (by omega) (show _ = _ from by rw [pcT_455, hw]) hi hj (by decide) hdg (by rw [tr_at hj]; exact kk)
theorem ld_brs (X : Cx p s m args c cc nL own E B) (hJ : JG E B s g H locs) (hk : k < 11) {x : Int32} {j : Nat} (hi : x = nI j) (hj : j < 12) (hdg : decode cc pc = .ok (.aaload, 1))
    (kk : W p l e R s m args below meth c H locs cells slots Q (F0 m (pc + 1) ls (.ref (B + (wo k + (5 + j))) :: rest))) : W p l e R s m args below meth c H locs cells slots Q (F0 m pc ls (.int x :: .ref (B + (wo k + 2)) :: rest)) :=
  raldq (t0 := 2) X hJ rfl (lt_W hk (by omega)) (at_brs hk) hi hj (by decide) hdg kk
theorem ld_cts (X : Cx p s m args c cc nL own E B) (hJ : JG E B s g H locs) (hk : k < 11) {x : Int32} {j : Nat} (hi : x = nI j) (hj : j < 8) (hdg : decode cc pc = .ok (.aaload, 1))
    (kk : W p l e R s m args below meth c H locs cells slots Q (F0 m (pc + 1) ls (.ref (B + (wo k + (17 + 3 * j))) :: rest))) : W p l e R s m args below meth c H locs cells slots Q (F0 m pc ls (.int x :: .ref (B + (wo k + 3)) :: rest)) :=
  raldq (t0 := 3) X hJ rfl (lt_W hk (by omega)) (at_cts hk) hi hj (by decide) hdg kk
theorem ld_states (X : Cx p s m args c cc nL own E B) (hJ : JG E B s g H locs)  {x : Int32} {j : Nat} (hi : x = nI j) (hj : j < 7) (hdg : decode cc pc = .ok (.aaload, 1))
    (kk : W p l e R s m args below meth c H locs cells slots Q (F0 m (pc + 1) ls (.ref (B + wo (2 + j)) :: rest))) : W p l e R s m args below meth c H locs cells slots Q (F0 m pc ls (.int x :: .ref (B + 84) :: rest)) :=
  raldq (t0 := 4) X hJ rfl (by omega) pcT_84 hi hj (by decide) hdg kk
theorem ld_slots (X : Cx p s m args c cc nL own E B) (hJ : JG E B s g H locs)  {x : Int32} {j : Nat} (hi : x = nI j) (hj : j < 2) (hdg : decode cc pc = .ok (.aaload, 1))
    (kk : W p l e R s m args below meth c H locs cells slots Q (F0 m (pc + 1) ls (.ref (B + wo (9 + j)) :: rest))) : W p l e R s m args below meth c H locs cells slots Q (F0 m pc ls (.int x :: .ref (B + 372) :: rest)) :=
  raldq (t0 := 4) X hJ rfl (by omega) pcT_372 hi hj (by decide) hdg kk
theorem st_set (X : Cx p s m args c cc nL own E B) (hJ : JG E B s (upW g k w) H locs) (hk : k < 11) {x : Int32} {j : Nat} (hi : x = nI j) (hj : j < 4) (hdg : decode cc pc = .ok (.iastore, 1))
    (kk : ∀ (H1 : Heap) (locs1 : List Loc), JG E B s (upW g k (upd w (j) v)) H1 locs1 → W p l e R s m args below meth c H1 locs1 cells slots Q (F0 m (pc + 1) ls rest)) : W p l e R s m args below meth c H locs cells slots Q (F0 m pc ls (.int v :: .int x :: .ref (B + (wo k + 1)) :: rest)) :=
  rast X hJ (lt_W hk (by omega)) (at_stg hk upW_1) hi hj (by decide) hdg (fun H1 locs1 h => kk H1 locs1 (h.upW hk (by omega) (ow_set hj) (by show Sum.inl (E.2 0, 4, Sum.inl (tr 4 _)) = _; rw [tr_put (a := w) (b := upd w j v) hj (fun _ _ => rfl)])))
theorem st_line (X : Cx p s m args c cc nL own E B) (hJ : JG E B s (upW g k w) H locs) (hk : k < 11) {x : Int32} {j : Nat} (hi : x = nI j) (hj : j < 8) (hdg : decode cc pc = .ok (.iastore, 1))
    (kk : ∀ (H1 : Heap) (locs1 : List Loc), JG E B s (upW g k (upd w (12 + j) v)) H1 locs1 → W p l e R s m args below meth c H1 locs1 cells slots Q (F0 m (pc + 1) ls rest)) : W p l e R s m args below meth c H locs cells slots Q (F0 m pc ls (.int v :: .int x :: .ref (B + (wo k + 4)) :: rest)) :=
  rast X hJ (lt_W hk (by omega)) (at_line hk upW_1) hi hj (by decide) hdg (fun H1 locs1 h => kk H1 locs1 (h.upW hk (by omega) (ow_line hj) (by show Sum.inl (E.2 0, 8, Sum.inl (tr 8 _)) = _; rw [tr_put (a := fun j => w (12 + j)) (v := v) hj (fun i _ => by show (if 12 + i = 12 + j then v else w (12 + i)) = _; by_cases q : i = j <;> simp [q])])))
theorem st_lo (X : Cx p s m args c cc nL own E B) (hJ : JG E B s (upW g k w) H locs) {i : Nat} (hk : k < 11) (hic : i < 8) {x : Int32} {j : Nat} (hi : x = nI j) (hj : j < 12) (hdg : decode cc pc = .ok (.iastore, 1))
    (kk : ∀ (H1 : Heap) (locs1 : List Loc), JG E B s (upW g k (upd w (168 + 2 * (12 * i + j)) v)) H1 locs1 → W p l e R s m args below meth c H1 locs1 cells slots Q (F0 m (pc + 1) ls rest)) : W p l e R s m args below meth c H locs cells slots Q (F0 m pc ls (.int v :: .int x :: .ref (B + (wo k + (18 + 3 * i))) :: rest)) :=
  rast X hJ (lt_W hk (by omega)) (at_lo hk hic upW_1) hi hj (by decide) hdg (fun H1 locs1 h => kk H1 locs1 (h.upW hk (by omega) (ow_lo hic hj) (by rw [pw_lo hic, tr_put (a := fun q => w (168 + 2 * (12 * i + q))) (v := v) hj (fun q _ => by show (if 168 + 2 * (12 * i + q) = 168 + 2 * (12 * i + j) then v else w (168 + 2 * (12 * i + q))) = _; by_cases z : q = j; (· rw [if_pos (by omega), if_pos z]); (· rw [if_neg (by omega), if_neg z]))])))
theorem st_hi (X : Cx p s m args c cc nL own E B) (hJ : JG E B s (upW g k w) H locs) {i : Nat} (hk : k < 11) (hic : i < 8) {x : Int32} {j : Nat} (hi : x = nI j) (hj : j < 12) (hdg : decode cc pc = .ok (.iastore, 1))
    (kk : ∀ (H1 : Heap) (locs1 : List Loc), JG E B s (upW g k (upd w (168 + 2 * (12 * i + j) + 1) v)) H1 locs1 → W p l e R s m args below meth c H1 locs1 cells slots Q (F0 m (pc + 1) ls rest)) : W p l e R s m args below meth c H locs cells slots Q (F0 m pc ls (.int v :: .int x :: .ref (B + (wo k + (19 + 3 * i))) :: rest)) :=
  rast X hJ (lt_W hk (by omega)) (at_hi hk hic upW_1) hi hj (by decide) hdg (fun H1 locs1 h => kk H1 locs1 (h.upW hk (by omega) (ow_hi hic hj) (by rw [pw_hi hic, tr_put (a := fun q => w (168 + 2 * (12 * i + q) + 1)) (v := v) hj (fun q _ => by show (if 168 + 2 * (12 * i + q) + 1 = 168 + 2 * (12 * i + j) + 1 then v else w (168 + 2 * (12 * i + q) + 1)) = _; by_cases z : q = j; (· rw [if_pos (by omega), if_pos z]); (· rw [if_neg (by omega), if_neg z]))])))
theorem st_codes (X : Cx p s m args c cc nL own E B) (hJ : JG E B s (upC g w) H locs)  {x : Int32} {j : Nat} (hi : x = nI j) (hj : j < 80) (hdg : decode cc pc = .ok (.iastore, 1))
    (kk : ∀ (H1 : Heap) (locs1 : List Loc), JG E B s (upC g (upd w (100 + j) v)) H1 locs1 → W p l e R s m args below meth c H1 locs1 cells slots Q (F0 m (pc + 1) ls rest)) : W p l e R s m args below meth c H locs cells slots Q (F0 m pc ls (.int v :: .int x :: .ref (B + 457) :: rest)) :=
  rast X hJ (by omega) (show _ = _ from pcT_457) hi hj (by decide) hdg (fun H1 locs1 h => kk H1 locs1 (h.upC (by unfold oc; rw [if_neg (by omega), if_neg (by omega), if_neg (by omega), if_neg (by omega)]) (by omega) (by rw [pcT_457]; show Sum.inl (E.2 0, 80, Sum.inl (tr 80 (fun i => upd w (100 + j) v (100 + i)))) = _; rw [tr_put (a := fun i => w (100 + i)) (v := v) hj (fun i _ => by show (if 100 + i = 100 + j then v else w (100 + i)) = _; by_cases q : i = j <;> simp [q])]; rfl)))
theorem st_saved (X : Cx p s m args c cc nL own E B) (hJ : JG E B s (upC g w) H locs)  {x : Int32} {j : Nat} (hi : x = nI j) (hj : j < 2) (hx : narrow .boolean (.int v) = .int v) (hdg : decode cc pc = .ok (.bastore, 1))
    (kk : ∀ (H1 : Heap) (locs1 : List Loc), JG E B s (upC g (upd w (10 + j) v)) H1 locs1 → W p l e R s m args below meth c H1 locs1 cells slots Q (F0 m (pc + 1) ls rest)) : W p l e R s m args below meth c H locs cells slots Q (F0 m pc ls (.int v :: .int x :: .ref (B + 455) :: rest)) :=
  rzst X hJ (by omega) (show _ = _ from pcT_455) hi hx hj (by decide) hdg (fun H1 locs1 h => kk H1 locs1 (h.upC (by unfold oc; rw [if_neg (by omega), if_neg (by omega), if_neg (by omega), if_pos (by omega)]) (by omega) (by rw [pcT_455]; show Sum.inl (E.2 1, 2, Sum.inl (tr 2 (fun i => upd w (10 + j) v (10 + i)))) = _; rw [tr_put (a := fun i => w (10 + i)) (v := v) hj (fun i _ => by show (if 10 + i = 10 + j then v else w (10 + i)) = _; by_cases q : i = j <;> simp [q])]; rfl)))
theorem gX6_10 (X : Cx p s m args c cc nL RX6 E B) (hJ : JG E B s g H locs)  (hdg : decode cc pc = .ok (.getfield 10, 3))
    (kk : W p l e R s m args below meth c H locs cells slots Q (F0 m (pc + 3) ls (.ref (B + wo 0) :: rest))) : W p l e R s m args below meth c H locs cells slots Q (F0 m pc ls (.ref (B + 0) :: rest)) :=
  rget X hJ rfl inT6 0 (by decide) (tw (i := 227) (by decide +kernel) (by decide)) rfl (by omega) at_X rfl hdg kk
theorem gX6_16 (X : Cx p s m args c cc nL RX6 E B) (hJ : JG E B s g H locs)  (hdg : decode cc pc = .ok (.getfield 16, 3))
    (kk : W p l e R s m args below meth c H locs cells slots Q (F0 m (pc + 3) ls (.ref (B + wo 1) :: rest))) : W p l e R s m args below meth c H locs cells slots Q (F0 m pc ls (.ref (B + 0) :: rest)) :=
  rget X hJ rfl inT6 1 (by decide) (tw (i := 228) (by decide +kernel) (by decide)) rfl (by omega) at_X rfl hdg kk
theorem gX6_22 (X : Cx p s m args c cc nL RX6 E B) (hJ : JG E B s g H locs)  (hdg : decode cc pc = .ok (.getfield 22, 3))
    (kk : W p l e R s m args below meth c H locs cells slots Q (F0 m (pc + 3) ls (.ref (B + 83) :: rest))) : W p l e R s m args below meth c H locs cells slots Q (F0 m pc ls (.ref (B + 0) :: rest)) :=
  rget X hJ rfl inT6 2 (by decide) (tw (i := 229) (by decide +kernel) (by decide)) rfl (by omega) at_X rfl hdg kk
theorem gX6_26 (X : Cx p s m args c cc nL RX6 E B) (hJ : JG E B s g H locs)  (hdg : decode cc pc = .ok (.getfield 26, 3))
    (kk : W p l e R s m args below meth c H locs cells slots Q (F0 m (pc + 3) ls (.ref (B + 372) :: rest))) : W p l e R s m args below meth c H locs cells slots Q (F0 m pc ls (.ref (B + 0) :: rest)) :=
  rget X hJ rfl inT6 3 (by decide) (tw (i := 230) (by decide +kernel) (by decide)) rfl (by omega) at_X rfl hdg kk
theorem gX6_30 (X : Cx p s m args c cc nL RX6 E B) (hJ : JG E B s g H locs)  (hdg : decode cc pc = .ok (.getfield 30, 3))
    (kk : W p l e R s m args below meth c H locs cells slots Q (F0 m (pc + 3) ls (.ref (B + 455) :: rest))) : W p l e R s m args below meth c H locs cells slots Q (F0 m pc ls (.ref (B + 0) :: rest)) :=
  rget X hJ rfl inT6 4 (by decide) (tw (i := 231) (by decide +kernel) (by decide)) rfl (by omega) at_X rfl hdg kk
theorem gX6_37 (X : Cx p s m args c cc nL RX6 E B) (hJ : JG E B s g H locs)  (hdg : decode cc pc = .ok (.getfield 37, 3))
    (kk : W p l e R s m args below meth c H locs cells slots Q (F0 m (pc + 3) ls (.ref (B + 456) :: rest))) : W p l e R s m args below meth c H locs cells slots Q (F0 m pc ls (.ref (B + 0) :: rest)) :=
  rget X hJ rfl inT6 5 (by decide) (tw (i := 232) (by decide +kernel) (by decide)) rfl (by omega) at_X rfl hdg kk
theorem gX6_46 (X : Cx p s m args c cc nL RX6 E B) (hJ : JG E B s g H locs)  (hdg : decode cc pc = .ok (.getfield 46, 3))
    (kk : W p l e R s m args below meth c H locs cells slots Q (F0 m (pc + 3) ls (.ref (B + 458) :: rest))) : W p l e R s m args below meth c H locs cells slots Q (F0 m pc ls (.ref (B + 0) :: rest)) :=
  rget X hJ rfl inT6 6 (by decide) (tw (i := 233) (by decide +kernel) (by decide)) rfl (by omega) at_X rfl hdg kk
theorem gX6_92 (X : Cx p s m args c cc nL RX6 E B) (hJ : JG E B s g H locs) (hw : g.2.1 = w) (hdg : decode cc pc = .ok (.getfield 92, 3))
    (kk : W p l e R s m args below meth c H locs cells slots Q (F0 m (pc + 3) ls (.int (w 3) :: rest))) : W p l e R s m args below meth c H locs cells slots Q (F0 m pc ls (.ref (B + 456) :: rest)) :=
  rget X hJ rfl inT4 1 (by decide) (tw (i := 200) (by decide +kernel) (by decide)) rfl (by omega) (at_P hw) rfl hdg kk
theorem pX6_92 (X : Cx p s m args c cc nL RX6 E B) (hJ : JG E B s (upC g w) H locs)  (hdg : decode cc pc = .ok (.putfield 92, 3))
    (kk : ∀ (H1 : Heap) (locs1 : List Loc), JG E B s (upC g (upd w (3) v)) H1 locs1 → W p l e R s m args below meth c H1 locs1 cells slots Q (F0 m (pc + 3) ls rest)) : W p l e R s m args below meth c H locs cells slots Q (F0 m pc ls (.int v :: .ref (B + 456) :: rest)) :=
  rput X hJ rfl inT4 tyX4_ok nmX4 1 (by decide) (tw (i := 200) (by decide +kernel) (by decide)) rfl rfl rfl rfl (by omega) (at_P rfl) (Nat.le_of_ble_eq_true rfl) hdg (fun H1 locs1 h => kk H1 locs1 (h.upC (show oc 3 = 456 from rfl) (by omega) rfl))
theorem gX6_119 (X : Cx p s m args c cc nL RX6 E B) (hJ : JG E B s g H locs) (hk : k < 11) {i : Nat} (hi : i < 12) (hw : g.1 k = w) (hdg : decode cc pc = .ok (.getfield 119, 3))
    (kk : W p l e R s m args below meth c H locs cells slots Q (F0 m (pc + 3) ls (.int (w (360 + i)) :: rest))) : W p l e R s m args below meth c H locs cells slots Q (F0 m pc ls (.ref (B + (wo k + (5 + i))) :: rest)) :=
  rget X hJ rfl inT0 5 (by decide) (tw (i := 62) (by decide +kernel) (by decide)) rfl (lt_W hk (by omega)) (at_B hk hi hw) rfl hdg kk
theorem pX6_119 (X : Cx p s m args c cc nL RX6 E B) (hJ : JG E B s (upW g k w) H locs) (hk : k < 11) {i : Nat} (hi : i < 12)  (hdg : decode cc pc = .ok (.putfield 119, 3))
    (kk : ∀ (H1 : Heap) (locs1 : List Loc), JG E B s (upW g k (upd w (360 + i) v)) H1 locs1 → W p l e R s m args below meth c H1 locs1 cells slots Q (F0 m (pc + 3) ls rest)) : W p l e R s m args below meth c H locs cells slots Q (F0 m pc ls (.int v :: .ref (B + (wo k + (5 + i))) :: rest)) :=
  rput X hJ rfl inT0 tyX0_ok nmX0 5 (by decide) (tw (i := 62) (by decide +kernel) (by decide)) rfl rfl rfl rfl (lt_W hk (by omega)) (at_B hk hi upW_1) (Nat.le_of_ble_eq_true rfl) hdg (fun H1 locs1 h => kk H1 locs1 (h.upW hk (by omega) (ow_Bw hi) (by rw [pw_B hi]; simp [upd]; try omega)))
theorem gX6_133 (X : Cx p s m args c cc nL RX6 E B) (hJ : JG E B s g H locs) (hw : g.2.1 = w) (hdg : decode cc pc = .ok (.getfield 133, 3))
    (kk : W p l e R s m args below meth c H locs cells slots Q (F0 m (pc + 3) ls (.int (w 1) :: rest))) : W p l e R s m args below meth c H locs cells slots Q (F0 m pc ls (.ref (B + 83) :: rest)) :=
  rget X hJ rfl inT2 2 (by decide) (tw (i := 184) (by decide +kernel) (by decide)) rfl (by omega) (at_H hw) rfl hdg kk
theorem pX6_133 (X : Cx p s m args c cc nL RX6 E B) (hJ : JG E B s (upC g w) H locs)  (hdg : decode cc pc = .ok (.putfield 133, 3))
    (kk : ∀ (H1 : Heap) (locs1 : List Loc), JG E B s (upC g (upd w (1) v)) H1 locs1 → W p l e R s m args below meth c H1 locs1 cells slots Q (F0 m (pc + 3) ls rest)) : W p l e R s m args below meth c H locs cells slots Q (F0 m pc ls (.int v :: .ref (B + 83) :: rest)) :=
  rput X hJ rfl inT2 tyX2_ok nmX2 2 (by decide) (tw (i := 184) (by decide +kernel) (by decide)) rfl rfl rfl rfl (by omega) (at_H rfl) (Nat.le_of_ble_eq_true rfl) hdg (fun H1 locs1 h => kk H1 locs1 (h.upC (show oc 1 = 83 from rfl) (by omega) rfl))
theorem gX6_158 (X : Cx p s m args c cc nL RX6 E B) (hJ : JG E B s g H locs) (hk : k < 11) {i : Nat} (hi : i < 12) (hw : g.1 k = w) (hdg : decode cc pc = .ok (.getfield 158, 3))
    (kk : W p l e R s m args below meth c H locs cells slots Q (F0 m (pc + 3) ls (.int (w (20 + 7 * i + 2)) :: rest))) : W p l e R s m args below meth c H locs cells slots Q (F0 m pc ls (.ref (B + (wo k + (5 + i))) :: rest)) :=
  rget X hJ rfl inT0 3 (by decide) (tw (i := 56) (by decide +kernel) (by decide)) rfl (lt_W hk (by omega)) (at_B hk hi hw) rfl hdg kk
theorem pX6_158 (X : Cx p s m args c cc nL RX6 E B) (hJ : JG E B s (upW g k w) H locs) (hk : k < 11) {i : Nat} (hi : i < 12)  (hdg : decode cc pc = .ok (.putfield 158, 3))
    (kk : ∀ (H1 : Heap) (locs1 : List Loc), JG E B s (upW g k (upd w (20 + 7 * i + 2) v)) H1 locs1 → W p l e R s m args below meth c H1 locs1 cells slots Q (F0 m (pc + 3) ls rest)) : W p l e R s m args below meth c H locs cells slots Q (F0 m pc ls (.int v :: .ref (B + (wo k + (5 + i))) :: rest)) :=
  rput X hJ rfl inT0 tyX0_ok nmX0 3 (by decide) (tw (i := 56) (by decide +kernel) (by decide)) rfl rfl rfl rfl (lt_W hk (by omega)) (at_B hk hi upW_1) (Nat.le_of_ble_eq_true rfl) hdg (fun H1 locs1 h => kk H1 locs1 (h.upW hk (by omega) (ow_B (f := 2) hi (by omega)) (by rw [pw_B hi]; simp [upd]; try omega)))
theorem gX6_207 (X : Cx p s m args c cc nL RX6 E B) (hJ : JG E B s g H locs) (hk : k < 11) {i : Nat} (hi : i < 8) (hw : g.1 k = w) (hdg : decode cc pc = .ok (.getfield 207, 3))
    (kk : W p l e R s m args below meth c H locs cells slots Q (F0 m (pc + 3) ls (.int (nI i) :: rest))) : W p l e R s m args below meth c H locs cells slots Q (F0 m pc ls (.ref (B + (wo k + (17 + 3 * i))) :: rest)) :=
  rget X hJ rfl inT1 0 (by decide) (tw (i := 96) (by decide +kernel) (by decide)) rfl (lt_W hk (by omega)) (at_C hk hi hw) rfl hdg kk
theorem gX6_216 (X : Cx p s m args c cc nL RX6 E B) (hJ : JG E B s g H locs) (hk : k < 11) {i : Nat} (hi : i < 8) (hw : g.1 k = w) (hdg : decode cc pc = .ok (.getfield 216, 3))
    (kk : W p l e R s m args below meth c H locs cells slots Q (F0 m (pc + 3) ls (.int (w (104 + 8 * i)) :: rest))) : W p l e R s m args below meth c H locs cells slots Q (F0 m pc ls (.ref (B + (wo k + (17 + 3 * i))) :: rest)) :=
  rget X hJ rfl inT1 1 (by decide) (tw (i := 99) (by decide +kernel) (by decide)) rfl (lt_W hk (by omega)) (at_C hk hi hw) rfl hdg kk
theorem pX6_216 (X : Cx p s m args c cc nL RX6 E B) (hJ : JG E B s (upW g k w) H locs) (hk : k < 11) {i : Nat} (hi : i < 8)  (hdg : decode cc pc = .ok (.putfield 216, 3))
    (kk : ∀ (H1 : Heap) (locs1 : List Loc), JG E B s (upW g k (upd w (104 + 8 * i) v)) H1 locs1 → W p l e R s m args below meth c H1 locs1 cells slots Q (F0 m (pc + 3) ls rest)) : W p l e R s m args below meth c H locs cells slots Q (F0 m pc ls (.int v :: .ref (B + (wo k + (17 + 3 * i))) :: rest)) :=
  rput X hJ rfl inT1 tyX1_ok nmX1 1 (by decide) (tw (i := 99) (by decide +kernel) (by decide)) rfl rfl rfl rfl (lt_W hk (by omega)) (at_C hk hi upW_1) (Nat.le_of_ble_eq_true rfl) hdg (fun H1 locs1 h => kk H1 locs1 (h.upW hk (by omega) (ow_C (f := 0) hi (by omega)) (by rw [pw_C hi]; simp [upd]; try omega)))
theorem gX6_219 (X : Cx p s m args c cc nL RX6 E B) (hJ : JG E B s g H locs) (hk : k < 11) {i : Nat} (hi : i < 8) (hw : g.1 k = w) (hdg : decode cc pc = .ok (.getfield 219, 3))
    (kk : W p l e R s m args below meth c H locs cells slots Q (F0 m (pc + 3) ls (.int (w (104 + 8 * i + 1)) :: rest))) : W p l e R s m args below meth c H locs cells slots Q (F0 m pc ls (.ref (B + (wo k + (17 + 3 * i))) :: rest)) :=
  rget X hJ rfl inT1 2 (by decide) (tw (i := 102) (by decide +kernel) (by decide)) rfl (lt_W hk (by omega)) (at_C hk hi hw) rfl hdg kk
theorem pX6_219 (X : Cx p s m args c cc nL RX6 E B) (hJ : JG E B s (upW g k w) H locs) (hk : k < 11) {i : Nat} (hi : i < 8)  (hdg : decode cc pc = .ok (.putfield 219, 3))
    (kk : ∀ (H1 : Heap) (locs1 : List Loc), JG E B s (upW g k (upd w (104 + 8 * i + 1) v)) H1 locs1 → W p l e R s m args below meth c H1 locs1 cells slots Q (F0 m (pc + 3) ls rest)) : W p l e R s m args below meth c H locs cells slots Q (F0 m pc ls (.int v :: .ref (B + (wo k + (17 + 3 * i))) :: rest)) :=
  rput X hJ rfl inT1 tyX1_ok nmX1 2 (by decide) (tw (i := 102) (by decide +kernel) (by decide)) rfl rfl rfl rfl (lt_W hk (by omega)) (at_C hk hi upW_1) (Nat.le_of_ble_eq_true rfl) hdg (fun H1 locs1 h => kk H1 locs1 (h.upW hk (by omega) (ow_C (f := 1) hi (by omega)) (by rw [pw_C hi]; simp [upd]; try omega)))
theorem gX0_9 (X : Cx p s m args c cc nL RX0 E B) (hJ : JG E B s g H locs) (hk : k < 11) {i : Nat} (hi : i < 12) (hw : g.1 k = w) (hdg : decode cc pc = .ok (.getfield 9, 3))
    (kk : W p l e R s m args below meth c H locs cells slots Q (F0 m (pc + 3) ls (.int (nI i) :: rest))) : W p l e R s m args below meth c H locs cells slots Q (F0 m pc ls (.ref (B + (wo k + (5 + i))) :: rest)) :=
  rget X hJ rfl inT0 0 (by decide) (tw (i := 46) (by decide +kernel) (by decide)) rfl (lt_W hk (by omega)) (at_B hk hi hw) rfl hdg kk
theorem gX0_15 (X : Cx p s m args c cc nL RX0 E B) (hJ : JG E B s g H locs) (hk : k < 11) {i : Nat} (hi : i < 12) (hw : g.1 k = w) (hdg : decode cc pc = .ok (.getfield 15, 3))
    (kk : W p l e R s m args below meth c H locs cells slots Q (F0 m (pc + 3) ls (.int (w (20 + 7 * i)) :: rest))) : W p l e R s m args below meth c H locs cells slots Q (F0 m pc ls (.ref (B + (wo k + (5 + i))) :: rest)) :=
  rget X hJ rfl inT0 1 (by decide) (tw (i := 49) (by decide +kernel) (by decide)) rfl (lt_W hk (by omega)) (at_B hk hi hw) rfl hdg kk
theorem pX0_15 (X : Cx p s m args c cc nL RX0 E B) (hJ : JG E B s (upW g k w) H locs) (hk : k < 11) {i : Nat} (hi : i < 12)  (hdg : decode cc pc = .ok (.putfield 15, 3))
    (kk : ∀ (H1 : Heap) (locs1 : List Loc), JG E B s (upW g k (upd w (20 + 7 * i) v)) H1 locs1 → W p l e R s m args below meth c H1 locs1 cells slots Q (F0 m (pc + 3) ls rest)) : W p l e R s m args below meth c H locs cells slots Q (F0 m pc ls (.int v :: .ref (B + (wo k + (5 + i))) :: rest)) :=
  rput X hJ rfl inT0 tyX0_ok nmX0 1 (by decide) (tw (i := 49) (by decide +kernel) (by decide)) rfl rfl rfl rfl (lt_W hk (by omega)) (at_B hk hi upW_1) (Nat.le_of_ble_eq_true rfl) hdg (fun H1 locs1 h => kk H1 locs1 (h.upW hk (by omega) (ow_B (f := 0) hi (by omega)) (by rw [pw_B hi]; simp [upd]; try omega)))
theorem gX0_18 (X : Cx p s m args c cc nL RX0 E B) (hJ : JG E B s g H locs) (hk : k < 11) {i : Nat} (hi : i < 12) (hw : g.1 k = w) (hdg : decode cc pc = .ok (.getfield 18, 3))
    (kk : W p l e R s m args below meth c H locs cells slots Q (F0 m (pc + 3) ls (.int (w (20 + 7 * i + 1)) :: rest))) : W p l e R s m args below meth c H locs cells slots Q (F0 m pc ls (.ref (B + (wo k + (5 + i))) :: rest)) :=
  rget X hJ rfl inT0 2 (by decide) (tw (i := 51) (by decide +kernel) (by decide)) rfl (lt_W hk (by omega)) (at_B hk hi hw) rfl hdg kk
theorem pX0_18 (X : Cx p s m args c cc nL RX0 E B) (hJ : JG E B s (upW g k w) H locs) (hk : k < 11) {i : Nat} (hi : i < 12)  (hdg : decode cc pc = .ok (.putfield 18, 3))
    (kk : ∀ (H1 : Heap) (locs1 : List Loc), JG E B s (upW g k (upd w (20 + 7 * i + 1) v)) H1 locs1 → W p l e R s m args below meth c H1 locs1 cells slots Q (F0 m (pc + 3) ls rest)) : W p l e R s m args below meth c H locs cells slots Q (F0 m pc ls (.int v :: .ref (B + (wo k + (5 + i))) :: rest)) :=
  rput X hJ rfl inT0 tyX0_ok nmX0 2 (by decide) (tw (i := 51) (by decide +kernel) (by decide)) rfl rfl rfl rfl (lt_W hk (by omega)) (at_B hk hi upW_1) (Nat.le_of_ble_eq_true rfl) hdg (fun H1 locs1 h => kk H1 locs1 (h.upW hk (by omega) (ow_B (f := 1) hi (by omega)) (by rw [pw_B hi]; simp [upd]; try omega)))
theorem gX0_21 (X : Cx p s m args c cc nL RX0 E B) (hJ : JG E B s g H locs) (hk : k < 11) {i : Nat} (hi : i < 12) (hw : g.1 k = w) (hdg : decode cc pc = .ok (.getfield 21, 3))
    (kk : W p l e R s m args below meth c H locs cells slots Q (F0 m (pc + 3) ls (.int (w (20 + 7 * i + 2)) :: rest))) : W p l e R s m args below meth c H locs cells slots Q (F0 m pc ls (.ref (B + (wo k + (5 + i))) :: rest)) :=
  rget X hJ rfl inT0 3 (by decide) (tw (i := 53) (by decide +kernel) (by decide)) rfl (lt_W hk (by omega)) (at_B hk hi hw) rfl hdg kk
theorem pX0_21 (X : Cx p s m args c cc nL RX0 E B) (hJ : JG E B s (upW g k w) H locs) (hk : k < 11) {i : Nat} (hi : i < 12)  (hdg : decode cc pc = .ok (.putfield 21, 3))
    (kk : ∀ (H1 : Heap) (locs1 : List Loc), JG E B s (upW g k (upd w (20 + 7 * i + 2) v)) H1 locs1 → W p l e R s m args below meth c H1 locs1 cells slots Q (F0 m (pc + 3) ls rest)) : W p l e R s m args below meth c H locs cells slots Q (F0 m pc ls (.int v :: .ref (B + (wo k + (5 + i))) :: rest)) :=
  rput X hJ rfl inT0 tyX0_ok nmX0 3 (by decide) (tw (i := 53) (by decide +kernel) (by decide)) rfl rfl rfl rfl (lt_W hk (by omega)) (at_B hk hi upW_1) (Nat.le_of_ble_eq_true rfl) hdg (fun H1 locs1 h => kk H1 locs1 (h.upW hk (by omega) (ow_B (f := 2) hi (by omega)) (by rw [pw_B hi]; simp [upd]; try omega)))
theorem gX0_24 (X : Cx p s m args c cc nL RX0 E B) (hJ : JG E B s g H locs) (hk : k < 11) {i : Nat} (hi : i < 12) (hw : g.1 k = w) (hdg : decode cc pc = .ok (.getfield 24, 3))
    (kk : W p l e R s m args below meth c H locs cells slots Q (F0 m (pc + 3) ls (.int (w (20 + 7 * i + 3)) :: rest))) : W p l e R s m args below meth c H locs cells slots Q (F0 m pc ls (.ref (B + (wo k + (5 + i))) :: rest)) :=
  rget X hJ rfl inT0 4 (by decide) (tw (i := 57) (by decide +kernel) (by decide)) rfl (lt_W hk (by omega)) (at_B hk hi hw) rfl hdg kk
theorem pX0_24 (X : Cx p s m args c cc nL RX0 E B) (hJ : JG E B s (upW g k w) H locs) (hk : k < 11) {i : Nat} (hi : i < 12)  (hdg : decode cc pc = .ok (.putfield 24, 3))
    (kk : ∀ (H1 : Heap) (locs1 : List Loc), JG E B s (upW g k (upd w (20 + 7 * i + 3) v)) H1 locs1 → W p l e R s m args below meth c H1 locs1 cells slots Q (F0 m (pc + 3) ls rest)) : W p l e R s m args below meth c H locs cells slots Q (F0 m pc ls (.int v :: .ref (B + (wo k + (5 + i))) :: rest)) :=
  rput X hJ rfl inT0 tyX0_ok nmX0 4 (by decide) (tw (i := 57) (by decide +kernel) (by decide)) rfl rfl rfl rfl (lt_W hk (by omega)) (at_B hk hi upW_1) (Nat.le_of_ble_eq_true rfl) hdg (fun H1 locs1 h => kk H1 locs1 (h.upW hk (by omega) (ow_B (f := 3) hi (by omega)) (by rw [pw_B hi]; simp [upd]; try omega)))
theorem gX0_27 (X : Cx p s m args c cc nL RX0 E B) (hJ : JG E B s g H locs) (hk : k < 11) {i : Nat} (hi : i < 12) (hw : g.1 k = w) (hdg : decode cc pc = .ok (.getfield 27, 3))
    (kk : W p l e R s m args below meth c H locs cells slots Q (F0 m (pc + 3) ls (.int (w (360 + i)) :: rest))) : W p l e R s m args below meth c H locs cells slots Q (F0 m pc ls (.ref (B + (wo k + (5 + i))) :: rest)) :=
  rget X hJ rfl inT0 5 (by decide) (tw (i := 60) (by decide +kernel) (by decide)) rfl (lt_W hk (by omega)) (at_B hk hi hw) rfl hdg kk
theorem pX0_27 (X : Cx p s m args c cc nL RX0 E B) (hJ : JG E B s (upW g k w) H locs) (hk : k < 11) {i : Nat} (hi : i < 12)  (hdg : decode cc pc = .ok (.putfield 27, 3))
    (kk : ∀ (H1 : Heap) (locs1 : List Loc), JG E B s (upW g k (upd w (360 + i) v)) H1 locs1 → W p l e R s m args below meth c H1 locs1 cells slots Q (F0 m (pc + 3) ls rest)) : W p l e R s m args below meth c H locs cells slots Q (F0 m pc ls (.int v :: .ref (B + (wo k + (5 + i))) :: rest)) :=
  rput X hJ rfl inT0 tyX0_ok nmX0 5 (by decide) (tw (i := 60) (by decide +kernel) (by decide)) rfl rfl rfl rfl (lt_W hk (by omega)) (at_B hk hi upW_1) (Nat.le_of_ble_eq_true rfl) hdg (fun H1 locs1 h => kk H1 locs1 (h.upW hk (by omega) (ow_Bw hi) (by rw [pw_B hi]; simp [upd]; try omega)))
theorem gX0_30 (X : Cx p s m args c cc nL RX0 E B) (hJ : JG E B s g H locs) (hk : k < 11) {i : Nat} (hi : i < 12) (hw : g.1 k = w) (hdg : decode cc pc = .ok (.getfield 30, 3))
    (kk : W p l e R s m args below meth c H locs cells slots Q (F0 m (pc + 3) ls (.int (w (20 + 7 * i + 4)) :: rest))) : W p l e R s m args below meth c H locs cells slots Q (F0 m pc ls (.ref (B + (wo k + (5 + i))) :: rest)) :=
  rget X hJ rfl inT0 6 (by decide) (tw (i := 63) (by decide +kernel) (by decide)) rfl (lt_W hk (by omega)) (at_B hk hi hw) rfl hdg kk
theorem pX0_30 (X : Cx p s m args c cc nL RX0 E B) (hJ : JG E B s (upW g k w) H locs) (hk : k < 11) {i : Nat} (hi : i < 12)  (hdg : decode cc pc = .ok (.putfield 30, 3))
    (kk : ∀ (H1 : Heap) (locs1 : List Loc), JG E B s (upW g k (upd w (20 + 7 * i + 4) v)) H1 locs1 → W p l e R s m args below meth c H1 locs1 cells slots Q (F0 m (pc + 3) ls rest)) : W p l e R s m args below meth c H locs cells slots Q (F0 m pc ls (.int v :: .ref (B + (wo k + (5 + i))) :: rest)) :=
  rput X hJ rfl inT0 tyX0_ok nmX0 6 (by decide) (tw (i := 63) (by decide +kernel) (by decide)) rfl rfl rfl rfl (lt_W hk (by omega)) (at_B hk hi upW_1) (Nat.le_of_ble_eq_true rfl) hdg (fun H1 locs1 h => kk H1 locs1 (h.upW hk (by omega) (ow_B (f := 4) hi (by omega)) (by rw [pw_B hi]; simp [upd]; try omega)))
theorem gX0_33 (X : Cx p s m args c cc nL RX0 E B) (hJ : JG E B s g H locs) (hk : k < 11) {i : Nat} (hi : i < 12) (hw : g.1 k = w) (hdg : decode cc pc = .ok (.getfield 33, 3))
    (kk : W p l e R s m args below meth c H locs cells slots Q (F0 m (pc + 3) ls (.int (w (20 + 7 * i + 5)) :: rest))) : W p l e R s m args below meth c H locs cells slots Q (F0 m pc ls (.ref (B + (wo k + (5 + i))) :: rest)) :=
  rget X hJ rfl inT0 7 (by decide) (tw (i := 65) (by decide +kernel) (by decide)) rfl (lt_W hk (by omega)) (at_B hk hi hw) rfl hdg kk
theorem pX0_33 (X : Cx p s m args c cc nL RX0 E B) (hJ : JG E B s (upW g k w) H locs) (hk : k < 11) {i : Nat} (hi : i < 12)  (hdg : decode cc pc = .ok (.putfield 33, 3))
    (kk : ∀ (H1 : Heap) (locs1 : List Loc), JG E B s (upW g k (upd w (20 + 7 * i + 5) v)) H1 locs1 → W p l e R s m args below meth c H1 locs1 cells slots Q (F0 m (pc + 3) ls rest)) : W p l e R s m args below meth c H locs cells slots Q (F0 m pc ls (.int v :: .ref (B + (wo k + (5 + i))) :: rest)) :=
  rput X hJ rfl inT0 tyX0_ok nmX0 7 (by decide) (tw (i := 65) (by decide +kernel) (by decide)) rfl rfl rfl rfl (lt_W hk (by omega)) (at_B hk hi upW_1) (Nat.le_of_ble_eq_true rfl) hdg (fun H1 locs1 h => kk H1 locs1 (h.upW hk (by omega) (ow_B (f := 5) hi (by omega)) (by rw [pw_B hi]; simp [upd]; try omega)))
theorem gX0_36 (X : Cx p s m args c cc nL RX0 E B) (hJ : JG E B s g H locs) (hk : k < 11) {i : Nat} (hi : i < 12) (hw : g.1 k = w) (hdg : decode cc pc = .ok (.getfield 36, 3))
    (kk : W p l e R s m args below meth c H locs cells slots Q (F0 m (pc + 3) ls (.int (w (20 + 7 * i + 6)) :: rest))) : W p l e R s m args below meth c H locs cells slots Q (F0 m pc ls (.ref (B + (wo k + (5 + i))) :: rest)) :=
  rget X hJ rfl inT0 8 (by decide) (tw (i := 67) (by decide +kernel) (by decide)) rfl (lt_W hk (by omega)) (at_B hk hi hw) rfl hdg kk
theorem pX0_36 (X : Cx p s m args c cc nL RX0 E B) (hJ : JG E B s (upW g k w) H locs) (hk : k < 11) {i : Nat} (hi : i < 12)  (hdg : decode cc pc = .ok (.putfield 36, 3))
    (kk : ∀ (H1 : Heap) (locs1 : List Loc), JG E B s (upW g k (upd w (20 + 7 * i + 6) v)) H1 locs1 → W p l e R s m args below meth c H1 locs1 cells slots Q (F0 m (pc + 3) ls rest)) : W p l e R s m args below meth c H locs cells slots Q (F0 m pc ls (.int v :: .ref (B + (wo k + (5 + i))) :: rest)) :=
  rput X hJ rfl inT0 tyX0_ok nmX0 8 (by decide) (tw (i := 67) (by decide +kernel) (by decide)) rfl rfl rfl rfl (lt_W hk (by omega)) (at_B hk hi upW_1) (Nat.le_of_ble_eq_true rfl) hdg (fun H1 locs1 h => kk H1 locs1 (h.upW hk (by omega) (ow_B (f := 6) hi (by omega)) (by rw [pw_B hi]; simp [upd]; try omega)))
theorem gX1_9 (X : Cx p s m args c cc nL RX1 E B) (hJ : JG E B s g H locs) (hk : k < 11) {i : Nat} (hi : i < 8) (hw : g.1 k = w) (hdg : decode cc pc = .ok (.getfield 9, 3))
    (kk : W p l e R s m args below meth c H locs cells slots Q (F0 m (pc + 3) ls (.int (w (104 + 8 * i + 2)) :: rest))) : W p l e R s m args below meth c H locs cells slots Q (F0 m pc ls (.ref (B + (wo k + (17 + 3 * i))) :: rest)) :=
  rget X hJ rfl inT1 3 (by decide) (tw (i := 103) (by decide +kernel) (by decide)) rfl (lt_W hk (by omega)) (at_C hk hi hw) rfl hdg kk
theorem pX1_9 (X : Cx p s m args c cc nL RX1 E B) (hJ : JG E B s (upW g k w) H locs) (hk : k < 11) {i : Nat} (hi : i < 8)  (hdg : decode cc pc = .ok (.putfield 9, 3))
    (kk : ∀ (H1 : Heap) (locs1 : List Loc), JG E B s (upW g k (upd w (104 + 8 * i + 2) v)) H1 locs1 → W p l e R s m args below meth c H1 locs1 cells slots Q (F0 m (pc + 3) ls rest)) : W p l e R s m args below meth c H locs cells slots Q (F0 m pc ls (.int v :: .ref (B + (wo k + (17 + 3 * i))) :: rest)) :=
  rput X hJ rfl inT1 tyX1_ok nmX1 3 (by decide) (tw (i := 103) (by decide +kernel) (by decide)) rfl rfl rfl rfl (lt_W hk (by omega)) (at_C hk hi upW_1) (Nat.le_of_ble_eq_true rfl) hdg (fun H1 locs1 h => kk H1 locs1 (h.upW hk (by omega) (ow_C (f := 2) hi (by omega)) (by rw [pw_C hi]; simp [upd]; try omega)))
theorem gX1_15 (X : Cx p s m args c cc nL RX1 E B) (hJ : JG E B s g H locs) (hk : k < 11) {i : Nat} (hi : i < 8) (hw : g.1 k = w) (hdg : decode cc pc = .ok (.getfield 15, 3))
    (kk : W p l e R s m args below meth c H locs cells slots Q (F0 m (pc + 3) ls (.int (w (104 + 8 * i + 3)) :: rest))) : W p l e R s m args below meth c H locs cells slots Q (F0 m pc ls (.ref (B + (wo k + (17 + 3 * i))) :: rest)) :=
  rget X hJ rfl inT1 4 (by decide) (tw (i := 105) (by decide +kernel) (by decide)) rfl (lt_W hk (by omega)) (at_C hk hi hw) rfl hdg kk
theorem pX1_15 (X : Cx p s m args c cc nL RX1 E B) (hJ : JG E B s (upW g k w) H locs) (hk : k < 11) {i : Nat} (hi : i < 8)  (hdg : decode cc pc = .ok (.putfield 15, 3))
    (kk : ∀ (H1 : Heap) (locs1 : List Loc), JG E B s (upW g k (upd w (104 + 8 * i + 3) v)) H1 locs1 → W p l e R s m args below meth c H1 locs1 cells slots Q (F0 m (pc + 3) ls rest)) : W p l e R s m args below meth c H locs cells slots Q (F0 m pc ls (.int v :: .ref (B + (wo k + (17 + 3 * i))) :: rest)) :=
  rput X hJ rfl inT1 tyX1_ok nmX1 4 (by decide) (tw (i := 105) (by decide +kernel) (by decide)) rfl rfl rfl rfl (lt_W hk (by omega)) (at_C hk hi upW_1) (Nat.le_of_ble_eq_true rfl) hdg (fun H1 locs1 h => kk H1 locs1 (h.upW hk (by omega) (ow_C (f := 3) hi (by omega)) (by rw [pw_C hi]; simp [upd]; try omega)))
theorem gX1_18 (X : Cx p s m args c cc nL RX1 E B) (hJ : JG E B s g H locs) (hk : k < 11) {i : Nat} (hi : i < 8) (hw : g.1 k = w) (hdg : decode cc pc = .ok (.getfield 18, 3))
    (kk : W p l e R s m args below meth c H locs cells slots Q (F0 m (pc + 3) ls (.ref (B + (wo k + (18 + 3 * i))) :: rest))) : W p l e R s m args below meth c H locs cells slots Q (F0 m pc ls (.ref (B + (wo k + (17 + 3 * i))) :: rest)) :=
  rget X hJ rfl inT1 9 (by decide) (tw (i := 113) (by decide +kernel) (by decide)) rfl (lt_W hk (by omega)) (at_C hk hi hw) rfl hdg kk
theorem gX1_22 (X : Cx p s m args c cc nL RX1 E B) (hJ : JG E B s g H locs) (hk : k < 11) {i : Nat} (hi : i < 8) (hw : g.1 k = w) (hdg : decode cc pc = .ok (.getfield 22, 3))
    (kk : W p l e R s m args below meth c H locs cells slots Q (F0 m (pc + 3) ls (.ref (B + (wo k + (19 + 3 * i))) :: rest))) : W p l e R s m args below meth c H locs cells slots Q (F0 m pc ls (.ref (B + (wo k + (17 + 3 * i))) :: rest)) :=
  rget X hJ rfl inT1 10 (by decide) (tw (i := 114) (by decide +kernel) (by decide)) rfl (lt_W hk (by omega)) (at_C hk hi hw) rfl hdg kk
theorem gX1_25 (X : Cx p s m args c cc nL RX1 E B) (hJ : JG E B s g H locs) (hk : k < 11) {i : Nat} (hi : i < 8) (hw : g.1 k = w) (hdg : decode cc pc = .ok (.getfield 25, 3))
    (kk : W p l e R s m args below meth c H locs cells slots Q (F0 m (pc + 3) ls (.int (nI i) :: rest))) : W p l e R s m args below meth c H locs cells slots Q (F0 m pc ls (.ref (B + (wo k + (17 + 3 * i))) :: rest)) :=
  rget X hJ rfl inT1 0 (by decide) (tw (i := 94) (by decide +kernel) (by decide)) rfl (lt_W hk (by omega)) (at_C hk hi hw) rfl hdg kk
theorem gX1_28 (X : Cx p s m args c cc nL RX1 E B) (hJ : JG E B s g H locs) (hk : k < 11) {i : Nat} (hi : i < 8) (hw : g.1 k = w) (hdg : decode cc pc = .ok (.getfield 28, 3))
    (kk : W p l e R s m args below meth c H locs cells slots Q (F0 m (pc + 3) ls (.int (w (104 + 8 * i)) :: rest))) : W p l e R s m args below meth c H locs cells slots Q (F0 m pc ls (.ref (B + (wo k + (17 + 3 * i))) :: rest)) :=
  rget X hJ rfl inT1 1 (by decide) (tw (i := 97) (by decide +kernel) (by decide)) rfl (lt_W hk (by omega)) (at_C hk hi hw) rfl hdg kk
theorem pX1_28 (X : Cx p s m args c cc nL RX1 E B) (hJ : JG E B s (upW g k w) H locs) (hk : k < 11) {i : Nat} (hi : i < 8)  (hdg : decode cc pc = .ok (.putfield 28, 3))
    (kk : ∀ (H1 : Heap) (locs1 : List Loc), JG E B s (upW g k (upd w (104 + 8 * i) v)) H1 locs1 → W p l e R s m args below meth c H1 locs1 cells slots Q (F0 m (pc + 3) ls rest)) : W p l e R s m args below meth c H locs cells slots Q (F0 m pc ls (.int v :: .ref (B + (wo k + (17 + 3 * i))) :: rest)) :=
  rput X hJ rfl inT1 tyX1_ok nmX1 1 (by decide) (tw (i := 97) (by decide +kernel) (by decide)) rfl rfl rfl rfl (lt_W hk (by omega)) (at_C hk hi upW_1) (Nat.le_of_ble_eq_true rfl) hdg (fun H1 locs1 h => kk H1 locs1 (h.upW hk (by omega) (ow_C (f := 0) hi (by omega)) (by rw [pw_C hi]; simp [upd]; try omega)))
theorem gX1_31 (X : Cx p s m args c cc nL RX1 E B) (hJ : JG E B s g H locs) (hk : k < 11) {i : Nat} (hi : i < 8) (hw : g.1 k = w) (hdg : decode cc pc = .ok (.getfield 31, 3))
    (kk : W p l e R s m args below meth c H locs cells slots Q (F0 m (pc + 3) ls (.int (w (104 + 8 * i + 1)) :: rest))) : W p l e R s m args below meth c H locs cells slots Q (F0 m pc ls (.ref (B + (wo k + (17 + 3 * i))) :: rest)) :=
  rget X hJ rfl inT1 2 (by decide) (tw (i := 100) (by decide +kernel) (by decide)) rfl (lt_W hk (by omega)) (at_C hk hi hw) rfl hdg kk
theorem pX1_31 (X : Cx p s m args c cc nL RX1 E B) (hJ : JG E B s (upW g k w) H locs) (hk : k < 11) {i : Nat} (hi : i < 8)  (hdg : decode cc pc = .ok (.putfield 31, 3))
    (kk : ∀ (H1 : Heap) (locs1 : List Loc), JG E B s (upW g k (upd w (104 + 8 * i + 1) v)) H1 locs1 → W p l e R s m args below meth c H1 locs1 cells slots Q (F0 m (pc + 3) ls rest)) : W p l e R s m args below meth c H locs cells slots Q (F0 m pc ls (.int v :: .ref (B + (wo k + (17 + 3 * i))) :: rest)) :=
  rput X hJ rfl inT1 tyX1_ok nmX1 2 (by decide) (tw (i := 100) (by decide +kernel) (by decide)) rfl rfl rfl rfl (lt_W hk (by omega)) (at_C hk hi upW_1) (Nat.le_of_ble_eq_true rfl) hdg (fun H1 locs1 h => kk H1 locs1 (h.upW hk (by omega) (ow_C (f := 1) hi (by omega)) (by rw [pw_C hi]; simp [upd]; try omega)))
theorem gX1_34 (X : Cx p s m args c cc nL RX1 E B) (hJ : JG E B s g H locs) (hk : k < 11) {i : Nat} (hi : i < 8) (hw : g.1 k = w) (hdg : decode cc pc = .ok (.getfield 34, 3))
    (kk : W p l e R s m args below meth c H locs cells slots Q (F0 m (pc + 3) ls (.int (w (104 + 8 * i + 4)) :: rest))) : W p l e R s m args below meth c H locs cells slots Q (F0 m pc ls (.ref (B + (wo k + (17 + 3 * i))) :: rest)) :=
  rget X hJ rfl inT1 5 (by decide) (tw (i := 107) (by decide +kernel) (by decide)) rfl (lt_W hk (by omega)) (at_C hk hi hw) rfl hdg kk
theorem pX1_34 (X : Cx p s m args c cc nL RX1 E B) (hJ : JG E B s (upW g k w) H locs) (hk : k < 11) {i : Nat} (hi : i < 8)  (hdg : decode cc pc = .ok (.putfield 34, 3))
    (kk : ∀ (H1 : Heap) (locs1 : List Loc), JG E B s (upW g k (upd w (104 + 8 * i + 4) v)) H1 locs1 → W p l e R s m args below meth c H1 locs1 cells slots Q (F0 m (pc + 3) ls rest)) : W p l e R s m args below meth c H locs cells slots Q (F0 m pc ls (.int v :: .ref (B + (wo k + (17 + 3 * i))) :: rest)) :=
  rput X hJ rfl inT1 tyX1_ok nmX1 5 (by decide) (tw (i := 107) (by decide +kernel) (by decide)) rfl rfl rfl rfl (lt_W hk (by omega)) (at_C hk hi upW_1) (Nat.le_of_ble_eq_true rfl) hdg (fun H1 locs1 h => kk H1 locs1 (h.upW hk (by omega) (ow_C (f := 4) hi (by omega)) (by rw [pw_C hi]; simp [upd]; try omega)))
theorem gX1_37 (X : Cx p s m args c cc nL RX1 E B) (hJ : JG E B s g H locs) (hk : k < 11) {i : Nat} (hi : i < 8) (hw : g.1 k = w) (hdg : decode cc pc = .ok (.getfield 37, 3))
    (kk : W p l e R s m args below meth c H locs cells slots Q (F0 m (pc + 3) ls (.int (w (104 + 8 * i + 5)) :: rest))) : W p l e R s m args below meth c H locs cells slots Q (F0 m pc ls (.ref (B + (wo k + (17 + 3 * i))) :: rest)) :=
  rget X hJ rfl inT1 6 (by decide) (tw (i := 109) (by decide +kernel) (by decide)) rfl (lt_W hk (by omega)) (at_C hk hi hw) rfl hdg kk
theorem pX1_37 (X : Cx p s m args c cc nL RX1 E B) (hJ : JG E B s (upW g k w) H locs) (hk : k < 11) {i : Nat} (hi : i < 8)  (hdg : decode cc pc = .ok (.putfield 37, 3))
    (kk : ∀ (H1 : Heap) (locs1 : List Loc), JG E B s (upW g k (upd w (104 + 8 * i + 5) v)) H1 locs1 → W p l e R s m args below meth c H1 locs1 cells slots Q (F0 m (pc + 3) ls rest)) : W p l e R s m args below meth c H locs cells slots Q (F0 m pc ls (.int v :: .ref (B + (wo k + (17 + 3 * i))) :: rest)) :=
  rput X hJ rfl inT1 tyX1_ok nmX1 6 (by decide) (tw (i := 109) (by decide +kernel) (by decide)) rfl rfl rfl rfl (lt_W hk (by omega)) (at_C hk hi upW_1) (Nat.le_of_ble_eq_true rfl) hdg (fun H1 locs1 h => kk H1 locs1 (h.upW hk (by omega) (ow_C (f := 5) hi (by omega)) (by rw [pw_C hi]; simp [upd]; try omega)))
theorem gX1_40 (X : Cx p s m args c cc nL RX1 E B) (hJ : JG E B s g H locs) (hk : k < 11) {i : Nat} (hi : i < 8) (hw : g.1 k = w) (hdg : decode cc pc = .ok (.getfield 40, 3))
    (kk : W p l e R s m args below meth c H locs cells slots Q (F0 m (pc + 3) ls (.int (w (104 + 8 * i + 6)) :: rest))) : W p l e R s m args below meth c H locs cells slots Q (F0 m pc ls (.ref (B + (wo k + (17 + 3 * i))) :: rest)) :=
  rget X hJ rfl inT1 7 (by decide) (tw (i := 111) (by decide +kernel) (by decide)) rfl (lt_W hk (by omega)) (at_C hk hi hw) rfl hdg kk
theorem pX1_40 (X : Cx p s m args c cc nL RX1 E B) (hJ : JG E B s (upW g k w) H locs) (hk : k < 11) {i : Nat} (hi : i < 8)  (hdg : decode cc pc = .ok (.putfield 40, 3))
    (kk : ∀ (H1 : Heap) (locs1 : List Loc), JG E B s (upW g k (upd w (104 + 8 * i + 6) v)) H1 locs1 → W p l e R s m args below meth c H1 locs1 cells slots Q (F0 m (pc + 3) ls rest)) : W p l e R s m args below meth c H locs cells slots Q (F0 m pc ls (.int v :: .ref (B + (wo k + (17 + 3 * i))) :: rest)) :=
  rput X hJ rfl inT1 tyX1_ok nmX1 7 (by decide) (tw (i := 111) (by decide +kernel) (by decide)) rfl rfl rfl rfl (lt_W hk (by omega)) (at_C hk hi upW_1) (Nat.le_of_ble_eq_true rfl) hdg (fun H1 locs1 h => kk H1 locs1 (h.upW hk (by omega) (ow_C (f := 6) hi (by omega)) (by rw [pw_C hi]; simp [upd]; try omega)))
theorem gX1_43 (X : Cx p s m args c cc nL RX1 E B) (hJ : JG E B s g H locs) (hk : k < 11) {i : Nat} (hi : i < 8) (hw : g.1 k = w) (hdg : decode cc pc = .ok (.getfield 43, 3))
    (kk : W p l e R s m args below meth c H locs cells slots Q (F0 m (pc + 3) ls (.int (w (104 + 8 * i + 7)) :: rest))) : W p l e R s m args below meth c H locs cells slots Q (F0 m pc ls (.ref (B + (wo k + (17 + 3 * i))) :: rest)) :=
  rget X hJ rfl inT1 8 (by decide) (tw (i := 112) (by decide +kernel) (by decide)) rfl (lt_W hk (by omega)) (at_C hk hi hw) rfl hdg kk
theorem pX1_43 (X : Cx p s m args c cc nL RX1 E B) (hJ : JG E B s (upW g k w) H locs) (hk : k < 11) {i : Nat} (hi : i < 8)  (hdg : decode cc pc = .ok (.putfield 43, 3))
    (kk : ∀ (H1 : Heap) (locs1 : List Loc), JG E B s (upW g k (upd w (104 + 8 * i + 7) v)) H1 locs1 → W p l e R s m args below meth c H1 locs1 cells slots Q (F0 m (pc + 3) ls rest)) : W p l e R s m args below meth c H locs cells slots Q (F0 m pc ls (.int v :: .ref (B + (wo k + (17 + 3 * i))) :: rest)) :=
  rput X hJ rfl inT1 tyX1_ok nmX1 8 (by decide) (tw (i := 112) (by decide +kernel) (by decide)) rfl rfl rfl rfl (lt_W hk (by omega)) (at_C hk hi upW_1) (Nat.le_of_ble_eq_true rfl) hdg (fun H1 locs1 h => kk H1 locs1 (h.upW hk (by omega) (ow_C (f := 7) hi (by omega)) (by rw [pw_C hi]; simp [upd]; try omega)))
theorem gX1_52 (X : Cx p s m args c cc nL RX1 E B) (hJ : JG E B s g H locs) (hk : k < 11) {i : Nat} (hi : i < 12) (hw : g.1 k = w) (hdg : decode cc pc = .ok (.getfield 52, 3))
    (kk : W p l e R s m args below meth c H locs cells slots Q (F0 m (pc + 3) ls (.int (nI i) :: rest))) : W p l e R s m args below meth c H locs cells slots Q (F0 m pc ls (.ref (B + (wo k + (5 + i))) :: rest)) :=
  rget X hJ rfl inT0 0 (by decide) (tw (i := 47) (by decide +kernel) (by decide)) rfl (lt_W hk (by omega)) (at_B hk hi hw) rfl hdg kk
theorem gX1_62 (X : Cx p s m args c cc nL RX1 E B) (hJ : JG E B s g H locs) (hk : k < 11) {i : Nat} (hi : i < 12) (hw : g.1 k = w) (hdg : decode cc pc = .ok (.getfield 62, 3))
    (kk : W p l e R s m args below meth c H locs cells slots Q (F0 m (pc + 3) ls (.int (w (20 + 7 * i + 2)) :: rest))) : W p l e R s m args below meth c H locs cells slots Q (F0 m pc ls (.ref (B + (wo k + (5 + i))) :: rest)) :=
  rget X hJ rfl inT0 3 (by decide) (tw (i := 55) (by decide +kernel) (by decide)) rfl (lt_W hk (by omega)) (at_B hk hi hw) rfl hdg kk
theorem pX1_62 (X : Cx p s m args c cc nL RX1 E B) (hJ : JG E B s (upW g k w) H locs) (hk : k < 11) {i : Nat} (hi : i < 12)  (hdg : decode cc pc = .ok (.putfield 62, 3))
    (kk : ∀ (H1 : Heap) (locs1 : List Loc), JG E B s (upW g k (upd w (20 + 7 * i + 2) v)) H1 locs1 → W p l e R s m args below meth c H1 locs1 cells slots Q (F0 m (pc + 3) ls rest)) : W p l e R s m args below meth c H locs cells slots Q (F0 m pc ls (.int v :: .ref (B + (wo k + (5 + i))) :: rest)) :=
  rput X hJ rfl inT0 tyX0_ok nmX0 3 (by decide) (tw (i := 55) (by decide +kernel) (by decide)) rfl rfl rfl rfl (lt_W hk (by omega)) (at_B hk hi upW_1) (Nat.le_of_ble_eq_true rfl) hdg (fun H1 locs1 h => kk H1 locs1 (h.upW hk (by omega) (ow_B (f := 2) hi (by omega)) (by rw [pw_B hi]; simp [upd]; try omega)))
theorem gX1_65 (X : Cx p s m args c cc nL RX1 E B) (hJ : JG E B s g H locs) (hk : k < 11) {i : Nat} (hi : i < 12) (hw : g.1 k = w) (hdg : decode cc pc = .ok (.getfield 65, 3))
    (kk : W p l e R s m args below meth c H locs cells slots Q (F0 m (pc + 3) ls (.int (w (20 + 7 * i + 3)) :: rest))) : W p l e R s m args below meth c H locs cells slots Q (F0 m pc ls (.ref (B + (wo k + (5 + i))) :: rest)) :=
  rget X hJ rfl inT0 4 (by decide) (tw (i := 58) (by decide +kernel) (by decide)) rfl (lt_W hk (by omega)) (at_B hk hi hw) rfl hdg kk
theorem pX1_65 (X : Cx p s m args c cc nL RX1 E B) (hJ : JG E B s (upW g k w) H locs) (hk : k < 11) {i : Nat} (hi : i < 12)  (hdg : decode cc pc = .ok (.putfield 65, 3))
    (kk : ∀ (H1 : Heap) (locs1 : List Loc), JG E B s (upW g k (upd w (20 + 7 * i + 3) v)) H1 locs1 → W p l e R s m args below meth c H1 locs1 cells slots Q (F0 m (pc + 3) ls rest)) : W p l e R s m args below meth c H locs cells slots Q (F0 m pc ls (.int v :: .ref (B + (wo k + (5 + i))) :: rest)) :=
  rput X hJ rfl inT0 tyX0_ok nmX0 4 (by decide) (tw (i := 58) (by decide +kernel) (by decide)) rfl rfl rfl rfl (lt_W hk (by omega)) (at_B hk hi upW_1) (Nat.le_of_ble_eq_true rfl) hdg (fun H1 locs1 h => kk H1 locs1 (h.upW hk (by omega) (ow_B (f := 3) hi (by omega)) (by rw [pw_B hi]; simp [upd]; try omega)))
theorem gX1_77 (X : Cx p s m args c cc nL RX1 E B) (hJ : JG E B s g H locs) (hk : k < 11) {i : Nat} (hi : i < 12) (hw : g.1 k = w) (hdg : decode cc pc = .ok (.getfield 77, 3))
    (kk : W p l e R s m args below meth c H locs cells slots Q (F0 m (pc + 3) ls (.int (w (20 + 7 * i + 4)) :: rest))) : W p l e R s m args below meth c H locs cells slots Q (F0 m pc ls (.ref (B + (wo k + (5 + i))) :: rest)) :=
  rget X hJ rfl inT0 6 (by decide) (tw (i := 64) (by decide +kernel) (by decide)) rfl (lt_W hk (by omega)) (at_B hk hi hw) rfl hdg kk
theorem pX1_77 (X : Cx p s m args c cc nL RX1 E B) (hJ : JG E B s (upW g k w) H locs) (hk : k < 11) {i : Nat} (hi : i < 12)  (hdg : decode cc pc = .ok (.putfield 77, 3))
    (kk : ∀ (H1 : Heap) (locs1 : List Loc), JG E B s (upW g k (upd w (20 + 7 * i + 4) v)) H1 locs1 → W p l e R s m args below meth c H1 locs1 cells slots Q (F0 m (pc + 3) ls rest)) : W p l e R s m args below meth c H locs cells slots Q (F0 m pc ls (.int v :: .ref (B + (wo k + (5 + i))) :: rest)) :=
  rput X hJ rfl inT0 tyX0_ok nmX0 6 (by decide) (tw (i := 64) (by decide +kernel) (by decide)) rfl rfl rfl rfl (lt_W hk (by omega)) (at_B hk hi upW_1) (Nat.le_of_ble_eq_true rfl) hdg (fun H1 locs1 h => kk H1 locs1 (h.upW hk (by omega) (ow_B (f := 4) hi (by omega)) (by rw [pw_B hi]; simp [upd]; try omega)))
theorem gX2_13 (X : Cx p s m args c cc nL RX2 E B) (hJ : JG E B s g H locs) (hw : g.2.1 = w) (hdg : decode cc pc = .ok (.getfield 13, 3))
    (kk : W p l e R s m args below meth c H locs cells slots Q (F0 m (pc + 3) ls (.ref (B + 84) :: rest))) : W p l e R s m args below meth c H locs cells slots Q (F0 m pc ls (.ref (B + 83) :: rest)) :=
  rget X hJ rfl inT2 0 (by decide) (tw (i := 181) (by decide +kernel) (by decide)) rfl (by omega) (at_H hw) rfl hdg kk
theorem gX2_18 (X : Cx p s m args c cc nL RX2 E B) (hJ : JG E B s g H locs) (hw : g.2.1 = w) (hdg : decode cc pc = .ok (.getfield 18, 3))
    (kk : W p l e R s m args below meth c H locs cells slots Q (F0 m (pc + 3) ls (.int (w 0) :: rest))) : W p l e R s m args below meth c H locs cells slots Q (F0 m pc ls (.ref (B + 83) :: rest)) :=
  rget X hJ rfl inT2 1 (by decide) (tw (i := 182) (by decide +kernel) (by decide)) rfl (by omega) (at_H hw) rfl hdg kk
theorem pX2_18 (X : Cx p s m args c cc nL RX2 E B) (hJ : JG E B s (upC g w) H locs)  (hdg : decode cc pc = .ok (.putfield 18, 3))
    (kk : ∀ (H1 : Heap) (locs1 : List Loc), JG E B s (upC g (upd w (0) v)) H1 locs1 → W p l e R s m args below meth c H1 locs1 cells slots Q (F0 m (pc + 3) ls rest)) : W p l e R s m args below meth c H locs cells slots Q (F0 m pc ls (.int v :: .ref (B + 83) :: rest)) :=
  rput X hJ rfl inT2 tyX2_ok nmX2 1 (by decide) (tw (i := 182) (by decide +kernel) (by decide)) rfl rfl rfl rfl (by omega) (at_H rfl) (Nat.le_of_ble_eq_true rfl) hdg (fun H1 locs1 h => kk H1 locs1 (h.upC (show oc 0 = 83 from rfl) (by omega) rfl))
theorem gX2_26 (X : Cx p s m args c cc nL RX2 E B) (hJ : JG E B s g H locs) (hw : g.2.1 = w) (hdg : decode cc pc = .ok (.getfield 26, 3))
    (kk : W p l e R s m args below meth c H locs cells slots Q (F0 m (pc + 3) ls (.int (w 1) :: rest))) : W p l e R s m args below meth c H locs cells slots Q (F0 m pc ls (.ref (B + 83) :: rest)) :=
  rget X hJ rfl inT2 2 (by decide) (tw (i := 183) (by decide +kernel) (by decide)) rfl (by omega) (at_H hw) rfl hdg kk
theorem pX2_26 (X : Cx p s m args c cc nL RX2 E B) (hJ : JG E B s (upC g w) H locs)  (hdg : decode cc pc = .ok (.putfield 26, 3))
    (kk : ∀ (H1 : Heap) (locs1 : List Loc), JG E B s (upC g (upd w (1) v)) H1 locs1 → W p l e R s m args below meth c H1 locs1 cells slots Q (F0 m (pc + 3) ls rest)) : W p l e R s m args below meth c H locs cells slots Q (F0 m pc ls (.int v :: .ref (B + 83) :: rest)) :=
  rput X hJ rfl inT2 tyX2_ok nmX2 2 (by decide) (tw (i := 183) (by decide +kernel) (by decide)) rfl rfl rfl rfl (by omega) (at_H rfl) (Nat.le_of_ble_eq_true rfl) hdg (fun H1 locs1 h => kk H1 locs1 (h.upC (show oc 1 = 83 from rfl) (by omega) rfl))
theorem gX3_9 (X : Cx p s m args c cc nL RX3 E B) (hJ : JG E B s g H locs) (hw : g.2.1 = w) (hdg : decode cc pc = .ok (.getfield 9, 3))
    (kk : W p l e R s m args below meth c H locs cells slots Q (F0 m (pc + 3) ls (.ref (B + 456) :: rest))) : W p l e R s m args below meth c H locs cells slots Q (F0 m pc ls (.ref (B + 458) :: rest)) :=
  rget X hJ rfl inT3 0 (by decide) (tw (i := 213) (by decide +kernel) (by decide)) rfl (by omega) (at_O hw) rfl hdg kk
theorem gX4_9 (X : Cx p s m args c cc nL RX4 E B) (hJ : JG E B s g H locs) (hw : g.2.1 = w) (hdg : decode cc pc = .ok (.getfield 9, 3))
    (kk : W p l e R s m args below meth c H locs cells slots Q (F0 m (pc + 3) ls (.ref (B + 457) :: rest))) : W p l e R s m args below meth c H locs cells slots Q (F0 m pc ls (.ref (B + 456) :: rest)) :=
  rget X hJ rfl inT4 0 (by decide) (tw (i := 198) (by decide +kernel) (by decide)) rfl (by omega) (at_P hw) rfl hdg kk
theorem gX4_15 (X : Cx p s m args c cc nL RX4 E B) (hJ : JG E B s g H locs) (hw : g.2.1 = w) (hdg : decode cc pc = .ok (.getfield 15, 3))
    (kk : W p l e R s m args below meth c H locs cells slots Q (F0 m (pc + 3) ls (.int (w 3) :: rest))) : W p l e R s m args below meth c H locs cells slots Q (F0 m pc ls (.ref (B + 456) :: rest)) :=
  rget X hJ rfl inT4 1 (by decide) (tw (i := 199) (by decide +kernel) (by decide)) rfl (by omega) (at_P hw) rfl hdg kk
theorem pX4_15 (X : Cx p s m args c cc nL RX4 E B) (hJ : JG E B s (upC g w) H locs)  (hdg : decode cc pc = .ok (.putfield 15, 3))
    (kk : ∀ (H1 : Heap) (locs1 : List Loc), JG E B s (upC g (upd w (3) v)) H1 locs1 → W p l e R s m args below meth c H1 locs1 cells slots Q (F0 m (pc + 3) ls rest)) : W p l e R s m args below meth c H locs cells slots Q (F0 m pc ls (.int v :: .ref (B + 456) :: rest)) :=
  rput X hJ rfl inT4 tyX4_ok nmX4 1 (by decide) (tw (i := 199) (by decide +kernel) (by decide)) rfl rfl rfl rfl (by omega) (at_P rfl) (Nat.le_of_ble_eq_true rfl) hdg (fun H1 locs1 h => kk H1 locs1 (h.upC (show oc 3 = 456 from rfl) (by omega) rfl))
theorem gX5_9 (X : Cx p s m args c cc nL RX5 E B) (hJ : JG E B s g H locs) (hk : k < 11) (hw : g.1 k = w) (hdg : decode cc pc = .ok (.getfield 9, 3))
    (kk : W p l e R s m args below meth c H locs cells slots Q (F0 m (pc + 3) ls (.ref (B + (wo k + 1)) :: rest))) : W p l e R s m args below meth c H locs cells slots Q (F0 m pc ls (.ref (B + wo k) :: rest)) :=
  rget X hJ rfl inT5 0 (by decide) (tw (i := 138) (by decide +kernel) (by decide)) rfl (lt_W0 hk) (at_W hk hw) rfl hdg kk
theorem gX5_17 (X : Cx p s m args c cc nL RX5 E B) (hJ : JG E B s g H locs) (hk : k < 11) (hw : g.1 k = w) (hdg : decode cc pc = .ok (.getfield 17, 3))
    (kk : W p l e R s m args below meth c H locs cells slots Q (F0 m (pc + 3) ls (.ref (B + (wo k + 2)) :: rest))) : W p l e R s m args below meth c H locs cells slots Q (F0 m pc ls (.ref (B + wo k) :: rest)) :=
  rget X hJ rfl inT5 1 (by decide) (tw (i := 139) (by decide +kernel) (by decide)) rfl (lt_W0 hk) (at_W hk hw) rfl hdg kk
theorem gX5_23 (X : Cx p s m args c cc nL RX5 E B) (hJ : JG E B s g H locs) (hk : k < 11) (hw : g.1 k = w) (hdg : decode cc pc = .ok (.getfield 23, 3))
    (kk : W p l e R s m args below meth c H locs cells slots Q (F0 m (pc + 3) ls (.ref (B + (wo k + 3)) :: rest))) : W p l e R s m args below meth c H locs cells slots Q (F0 m pc ls (.ref (B + wo k) :: rest)) :=
  rget X hJ rfl inT5 2 (by decide) (tw (i := 140) (by decide +kernel) (by decide)) rfl (lt_W0 hk) (at_W hk hw) rfl hdg kk
theorem gX5_27 (X : Cx p s m args c cc nL RX5 E B) (hJ : JG E B s g H locs) (hk : k < 11) (hw : g.1 k = w) (hdg : decode cc pc = .ok (.getfield 27, 3))
    (kk : W p l e R s m args below meth c H locs cells slots Q (F0 m (pc + 3) ls (.ref (B + (wo k + 4)) :: rest))) : W p l e R s m args below meth c H locs cells slots Q (F0 m pc ls (.ref (B + wo k) :: rest)) :=
  rget X hJ rfl inT5 3 (by decide) (tw (i := 141) (by decide +kernel) (by decide)) rfl (lt_W0 hk) (at_W hk hw) rfl hdg kk
theorem gX5_30 (X : Cx p s m args c cc nL RX5 E B) (hJ : JG E B s g H locs) (hk : k < 11) (hw : g.1 k = w) (hdg : decode cc pc = .ok (.getfield 30, 3))
    (kk : W p l e R s m args below meth c H locs cells slots Q (F0 m (pc + 3) ls (.int (w 7) :: rest))) : W p l e R s m args below meth c H locs cells slots Q (F0 m pc ls (.ref (B + wo k) :: rest)) :=
  rget X hJ rfl inT5 7 (by decide) (tw (i := 145) (by decide +kernel) (by decide)) rfl (lt_W0 hk) (at_W hk hw) rfl hdg kk
theorem pX5_30 (X : Cx p s m args c cc nL RX5 E B) (hJ : JG E B s (upW g k w) H locs) (hk : k < 11)  (hdg : decode cc pc = .ok (.putfield 30, 3))
    (kk : ∀ (H1 : Heap) (locs1 : List Loc), JG E B s (upW g k (upd w (7) v)) H1 locs1 → W p l e R s m args below meth c H1 locs1 cells slots Q (F0 m (pc + 3) ls rest)) : W p l e R s m args below meth c H locs cells slots Q (F0 m pc ls (.int v :: .ref (B + wo k) :: rest)) :=
  rput X hJ rfl inT5 tyX5_ok nmX5 7 (by decide) (tw (i := 145) (by decide +kernel) (by decide)) rfl rfl rfl rfl (lt_W0 hk) (at_W hk upW_1) (Nat.le_of_ble_eq_true rfl) hdg (fun H1 locs1 h => kk H1 locs1 (JL.upW (r := 0) h hk (by omega) (show ow 7 = 0 from rfl) rfl))
theorem gX5_54 (X : Cx p s m args c cc nL RX5 E B) (hJ : JG E B s g H locs) (hk : k < 11) (hw : g.1 k = w) (hdg : decode cc pc = .ok (.getfield 54, 3))
    (kk : W p l e R s m args below meth c H locs cells slots Q (F0 m (pc + 3) ls (.int (w 10) :: rest))) : W p l e R s m args below meth c H locs cells slots Q (F0 m pc ls (.ref (B + wo k) :: rest)) :=
  rget X hJ rfl inT5 4 (by decide) (tw (i := 142) (by decide +kernel) (by decide)) rfl (lt_W0 hk) (at_W hk hw) rfl hdg kk
theorem pX5_54 (X : Cx p s m args c cc nL RX5 E B) (hJ : JG E B s (upW g k w) H locs) (hk : k < 11)  (hdg : decode cc pc = .ok (.putfield 54, 3))
    (kk : ∀ (H1 : Heap) (locs1 : List Loc), JG E B s (upW g k (upd w (10) v)) H1 locs1 → W p l e R s m args below meth c H1 locs1 cells slots Q (F0 m (pc + 3) ls rest)) : W p l e R s m args below meth c H locs cells slots Q (F0 m pc ls (.int v :: .ref (B + wo k) :: rest)) :=
  rput X hJ rfl inT5 tyX5_ok nmX5 4 (by decide) (tw (i := 142) (by decide +kernel) (by decide)) rfl rfl rfl rfl (lt_W0 hk) (at_W hk upW_1) (Nat.le_of_ble_eq_true rfl) hdg (fun H1 locs1 h => kk H1 locs1 (JL.upW (r := 0) h hk (by omega) (show ow 10 = 0 from rfl) rfl))
theorem gX5_57 (X : Cx p s m args c cc nL RX5 E B) (hJ : JG E B s g H locs) (hk : k < 11) (hw : g.1 k = w) (hdg : decode cc pc = .ok (.getfield 57, 3))
    (kk : W p l e R s m args below meth c H locs cells slots Q (F0 m (pc + 3) ls (.int (w 5) :: rest))) : W p l e R s m args below meth c H locs cells slots Q (F0 m pc ls (.ref (B + wo k) :: rest)) :=
  rget X hJ rfl inT5 5 (by decide) (tw (i := 143) (by decide +kernel) (by decide)) rfl (lt_W0 hk) (at_W hk hw) rfl hdg kk
theorem pX5_57 (X : Cx p s m args c cc nL RX5 E B) (hJ : JG E B s (upW g k w) H locs) (hk : k < 11)  (hdg : decode cc pc = .ok (.putfield 57, 3))
    (kk : ∀ (H1 : Heap) (locs1 : List Loc), JG E B s (upW g k (upd w (5) v)) H1 locs1 → W p l e R s m args below meth c H1 locs1 cells slots Q (F0 m (pc + 3) ls rest)) : W p l e R s m args below meth c H locs cells slots Q (F0 m pc ls (.int v :: .ref (B + wo k) :: rest)) :=
  rput X hJ rfl inT5 tyX5_ok nmX5 5 (by decide) (tw (i := 143) (by decide +kernel) (by decide)) rfl rfl rfl rfl (lt_W0 hk) (at_W hk upW_1) (Nat.le_of_ble_eq_true rfl) hdg (fun H1 locs1 h => kk H1 locs1 (JL.upW (r := 0) h hk (by omega) (show ow 5 = 0 from rfl) rfl))
theorem gX5_60 (X : Cx p s m args c cc nL RX5 E B) (hJ : JG E B s g H locs) (hk : k < 11) (hw : g.1 k = w) (hdg : decode cc pc = .ok (.getfield 60, 3))
    (kk : W p l e R s m args below meth c H locs cells slots Q (F0 m (pc + 3) ls (.int (w 6) :: rest))) : W p l e R s m args below meth c H locs cells slots Q (F0 m pc ls (.ref (B + wo k) :: rest)) :=
  rget X hJ rfl inT5 6 (by decide) (tw (i := 144) (by decide +kernel) (by decide)) rfl (lt_W0 hk) (at_W hk hw) rfl hdg kk
theorem pX5_60 (X : Cx p s m args c cc nL RX5 E B) (hJ : JG E B s (upW g k w) H locs) (hk : k < 11)  (hdg : decode cc pc = .ok (.putfield 60, 3))
    (kk : ∀ (H1 : Heap) (locs1 : List Loc), JG E B s (upW g k (upd w (6) v)) H1 locs1 → W p l e R s m args below meth c H1 locs1 cells slots Q (F0 m (pc + 3) ls rest)) : W p l e R s m args below meth c H locs cells slots Q (F0 m pc ls (.int v :: .ref (B + wo k) :: rest)) :=
  rput X hJ rfl inT5 tyX5_ok nmX5 6 (by decide) (tw (i := 144) (by decide +kernel) (by decide)) rfl rfl rfl rfl (lt_W0 hk) (at_W hk upW_1) (Nat.le_of_ble_eq_true rfl) hdg (fun H1 locs1 h => kk H1 locs1 (JL.upW (r := 0) h hk (by omega) (show ow 6 = 0 from rfl) rfl))
theorem gX5_63 (X : Cx p s m args c cc nL RX5 E B) (hJ : JG E B s g H locs) (hk : k < 11) (hw : g.1 k = w) (hdg : decode cc pc = .ok (.getfield 63, 3))
    (kk : W p l e R s m args below meth c H locs cells slots Q (F0 m (pc + 3) ls (.int (w 4) :: rest))) : W p l e R s m args below meth c H locs cells slots Q (F0 m pc ls (.ref (B + wo k) :: rest)) :=
  rget X hJ rfl inT5 8 (by decide) (tw (i := 146) (by decide +kernel) (by decide)) rfl (lt_W0 hk) (at_W hk hw) rfl hdg kk
theorem pX5_63 (X : Cx p s m args c cc nL RX5 E B) (hJ : JG E B s (upW g k w) H locs) (hk : k < 11)  (hdg : decode cc pc = .ok (.putfield 63, 3))
    (kk : ∀ (H1 : Heap) (locs1 : List Loc), JG E B s (upW g k (upd w (4) v)) H1 locs1 → W p l e R s m args below meth c H1 locs1 cells slots Q (F0 m (pc + 3) ls rest)) : W p l e R s m args below meth c H locs cells slots Q (F0 m pc ls (.int v :: .ref (B + wo k) :: rest)) :=
  rput X hJ rfl inT5 tyX5_ok nmX5 8 (by decide) (tw (i := 146) (by decide +kernel) (by decide)) rfl rfl rfl rfl (lt_W0 hk) (at_W hk upW_1) (Nat.le_of_ble_eq_true rfl) hdg (fun H1 locs1 h => kk H1 locs1 (JL.upW (r := 0) h hk (by omega) (show ow 4 = 0 from rfl) rfl))
theorem gX5_66 (X : Cx p s m args c cc nL RX5 E B) (hJ : JG E B s g H locs) (hk : k < 11) (hw : g.1 k = w) (hdg : decode cc pc = .ok (.getfield 66, 3))
    (kk : W p l e R s m args below meth c H locs cells slots Q (F0 m (pc + 3) ls (.int (w 8) :: rest))) : W p l e R s m args below meth c H locs cells slots Q (F0 m pc ls (.ref (B + wo k) :: rest)) :=
  rget X hJ rfl inT5 9 (by decide) (tw (i := 147) (by decide +kernel) (by decide)) rfl (lt_W0 hk) (at_W hk hw) rfl hdg kk
theorem pX5_66 (X : Cx p s m args c cc nL RX5 E B) (hJ : JG E B s (upW g k w) H locs) (hk : k < 11)  (hdg : decode cc pc = .ok (.putfield 66, 3))
    (kk : ∀ (H1 : Heap) (locs1 : List Loc), JG E B s (upW g k (upd w (8) v)) H1 locs1 → W p l e R s m args below meth c H1 locs1 cells slots Q (F0 m (pc + 3) ls rest)) : W p l e R s m args below meth c H locs cells slots Q (F0 m pc ls (.int v :: .ref (B + wo k) :: rest)) :=
  rput X hJ rfl inT5 tyX5_ok nmX5 9 (by decide) (tw (i := 147) (by decide +kernel) (by decide)) rfl rfl rfl rfl (lt_W0 hk) (at_W hk upW_1) (Nat.le_of_ble_eq_true rfl) hdg (fun H1 locs1 h => kk H1 locs1 (JL.upW (r := 0) h hk (by omega) (show ow 8 = 0 from rfl) rfl))
theorem gX5_69 (X : Cx p s m args c cc nL RX5 E B) (hJ : JG E B s g H locs) (hk : k < 11) (hw : g.1 k = w) (hdg : decode cc pc = .ok (.getfield 69, 3))
    (kk : W p l e R s m args below meth c H locs cells slots Q (F0 m (pc + 3) ls (.int (w 9) :: rest))) : W p l e R s m args below meth c H locs cells slots Q (F0 m pc ls (.ref (B + wo k) :: rest)) :=
  rget X hJ rfl inT5 10 (by decide) (tw (i := 148) (by decide +kernel) (by decide)) rfl (lt_W0 hk) (at_W hk hw) rfl hdg kk
theorem pX5_69 (X : Cx p s m args c cc nL RX5 E B) (hJ : JG E B s (upW g k w) H locs) (hk : k < 11)  (hdg : decode cc pc = .ok (.putfield 69, 3))
    (kk : ∀ (H1 : Heap) (locs1 : List Loc), JG E B s (upW g k (upd w (9) v)) H1 locs1 → W p l e R s m args below meth c H1 locs1 cells slots Q (F0 m (pc + 3) ls rest)) : W p l e R s m args below meth c H locs cells slots Q (F0 m pc ls (.int v :: .ref (B + wo k) :: rest)) :=
  rput X hJ rfl inT5 tyX5_ok nmX5 10 (by decide) (tw (i := 148) (by decide +kernel) (by decide)) rfl rfl rfl rfl (lt_W0 hk) (at_W hk upW_1) (Nat.le_of_ble_eq_true rfl) hdg (fun H1 locs1 h => kk H1 locs1 (JL.upW (r := 0) h hk (by omega) (show ow 9 = 0 from rfl) rfl))
theorem gX5_82 (X : Cx p s m args c cc nL RX5 E B) (hJ : JG E B s g H locs) (hk : k < 11) {i : Nat} (hi : i < 12) (hw : g.1 k = w) (hdg : decode cc pc = .ok (.getfield 82, 3))
    (kk : W p l e R s m args below meth c H locs cells slots Q (F0 m (pc + 3) ls (.int (w (20 + 7 * i)) :: rest))) : W p l e R s m args below meth c H locs cells slots Q (F0 m pc ls (.ref (B + (wo k + (5 + i))) :: rest)) :=
  rget X hJ rfl inT0 1 (by decide) (tw (i := 50) (by decide +kernel) (by decide)) rfl (lt_W hk (by omega)) (at_B hk hi hw) rfl hdg kk
theorem pX5_82 (X : Cx p s m args c cc nL RX5 E B) (hJ : JG E B s (upW g k w) H locs) (hk : k < 11) {i : Nat} (hi : i < 12)  (hdg : decode cc pc = .ok (.putfield 82, 3))
    (kk : ∀ (H1 : Heap) (locs1 : List Loc), JG E B s (upW g k (upd w (20 + 7 * i) v)) H1 locs1 → W p l e R s m args below meth c H1 locs1 cells slots Q (F0 m (pc + 3) ls rest)) : W p l e R s m args below meth c H locs cells slots Q (F0 m pc ls (.int v :: .ref (B + (wo k + (5 + i))) :: rest)) :=
  rput X hJ rfl inT0 tyX0_ok nmX0 1 (by decide) (tw (i := 50) (by decide +kernel) (by decide)) rfl rfl rfl rfl (lt_W hk (by omega)) (at_B hk hi upW_1) (Nat.le_of_ble_eq_true rfl) hdg (fun H1 locs1 h => kk H1 locs1 (h.upW hk (by omega) (ow_B (f := 0) hi (by omega)) (by rw [pw_B hi]; simp [upd]; try omega)))
theorem gX5_85 (X : Cx p s m args c cc nL RX5 E B) (hJ : JG E B s g H locs) (hk : k < 11) {i : Nat} (hi : i < 12) (hw : g.1 k = w) (hdg : decode cc pc = .ok (.getfield 85, 3))
    (kk : W p l e R s m args below meth c H locs cells slots Q (F0 m (pc + 3) ls (.int (w (20 + 7 * i + 1)) :: rest))) : W p l e R s m args below meth c H locs cells slots Q (F0 m pc ls (.ref (B + (wo k + (5 + i))) :: rest)) :=
  rget X hJ rfl inT0 2 (by decide) (tw (i := 52) (by decide +kernel) (by decide)) rfl (lt_W hk (by omega)) (at_B hk hi hw) rfl hdg kk
theorem pX5_85 (X : Cx p s m args c cc nL RX5 E B) (hJ : JG E B s (upW g k w) H locs) (hk : k < 11) {i : Nat} (hi : i < 12)  (hdg : decode cc pc = .ok (.putfield 85, 3))
    (kk : ∀ (H1 : Heap) (locs1 : List Loc), JG E B s (upW g k (upd w (20 + 7 * i + 1) v)) H1 locs1 → W p l e R s m args below meth c H1 locs1 cells slots Q (F0 m (pc + 3) ls rest)) : W p l e R s m args below meth c H locs cells slots Q (F0 m pc ls (.int v :: .ref (B + (wo k + (5 + i))) :: rest)) :=
  rput X hJ rfl inT0 tyX0_ok nmX0 2 (by decide) (tw (i := 52) (by decide +kernel) (by decide)) rfl rfl rfl rfl (lt_W hk (by omega)) (at_B hk hi upW_1) (Nat.le_of_ble_eq_true rfl) hdg (fun H1 locs1 h => kk H1 locs1 (h.upW hk (by omega) (ow_B (f := 1) hi (by omega)) (by rw [pw_B hi]; simp [upd]; try omega)))
theorem gX5_88 (X : Cx p s m args c cc nL RX5 E B) (hJ : JG E B s g H locs) (hk : k < 11) {i : Nat} (hi : i < 12) (hw : g.1 k = w) (hdg : decode cc pc = .ok (.getfield 88, 3))
    (kk : W p l e R s m args below meth c H locs cells slots Q (F0 m (pc + 3) ls (.int (w (20 + 7 * i + 2)) :: rest))) : W p l e R s m args below meth c H locs cells slots Q (F0 m pc ls (.ref (B + (wo k + (5 + i))) :: rest)) :=
  rget X hJ rfl inT0 3 (by decide) (tw (i := 54) (by decide +kernel) (by decide)) rfl (lt_W hk (by omega)) (at_B hk hi hw) rfl hdg kk
theorem pX5_88 (X : Cx p s m args c cc nL RX5 E B) (hJ : JG E B s (upW g k w) H locs) (hk : k < 11) {i : Nat} (hi : i < 12)  (hdg : decode cc pc = .ok (.putfield 88, 3))
    (kk : ∀ (H1 : Heap) (locs1 : List Loc), JG E B s (upW g k (upd w (20 + 7 * i + 2) v)) H1 locs1 → W p l e R s m args below meth c H1 locs1 cells slots Q (F0 m (pc + 3) ls rest)) : W p l e R s m args below meth c H locs cells slots Q (F0 m pc ls (.int v :: .ref (B + (wo k + (5 + i))) :: rest)) :=
  rput X hJ rfl inT0 tyX0_ok nmX0 3 (by decide) (tw (i := 54) (by decide +kernel) (by decide)) rfl rfl rfl rfl (lt_W hk (by omega)) (at_B hk hi upW_1) (Nat.le_of_ble_eq_true rfl) hdg (fun H1 locs1 h => kk H1 locs1 (h.upW hk (by omega) (ow_B (f := 2) hi (by omega)) (by rw [pw_B hi]; simp [upd]; try omega)))
theorem gX5_94 (X : Cx p s m args c cc nL RX5 E B) (hJ : JG E B s g H locs) (hk : k < 11) {i : Nat} (hi : i < 12) (hw : g.1 k = w) (hdg : decode cc pc = .ok (.getfield 94, 3))
    (kk : W p l e R s m args below meth c H locs cells slots Q (F0 m (pc + 3) ls (.int (nI i) :: rest))) : W p l e R s m args below meth c H locs cells slots Q (F0 m pc ls (.ref (B + (wo k + (5 + i))) :: rest)) :=
  rget X hJ rfl inT0 0 (by decide) (tw (i := 48) (by decide +kernel) (by decide)) rfl (lt_W hk (by omega)) (at_B hk hi hw) rfl hdg kk
theorem gX5_97 (X : Cx p s m args c cc nL RX5 E B) (hJ : JG E B s g H locs) (hk : k < 11) {i : Nat} (hi : i < 8) (hw : g.1 k = w) (hdg : decode cc pc = .ok (.getfield 97, 3))
    (kk : W p l e R s m args below meth c H locs cells slots Q (F0 m (pc + 3) ls (.int (w (104 + 8 * i)) :: rest))) : W p l e R s m args below meth c H locs cells slots Q (F0 m pc ls (.ref (B + (wo k + (17 + 3 * i))) :: rest)) :=
  rget X hJ rfl inT1 1 (by decide) (tw (i := 98) (by decide +kernel) (by decide)) rfl (lt_W hk (by omega)) (at_C hk hi hw) rfl hdg kk
theorem pX5_97 (X : Cx p s m args c cc nL RX5 E B) (hJ : JG E B s (upW g k w) H locs) (hk : k < 11) {i : Nat} (hi : i < 8)  (hdg : decode cc pc = .ok (.putfield 97, 3))
    (kk : ∀ (H1 : Heap) (locs1 : List Loc), JG E B s (upW g k (upd w (104 + 8 * i) v)) H1 locs1 → W p l e R s m args below meth c H1 locs1 cells slots Q (F0 m (pc + 3) ls rest)) : W p l e R s m args below meth c H locs cells slots Q (F0 m pc ls (.int v :: .ref (B + (wo k + (17 + 3 * i))) :: rest)) :=
  rput X hJ rfl inT1 tyX1_ok nmX1 1 (by decide) (tw (i := 98) (by decide +kernel) (by decide)) rfl rfl rfl rfl (lt_W hk (by omega)) (at_C hk hi upW_1) (Nat.le_of_ble_eq_true rfl) hdg (fun H1 locs1 h => kk H1 locs1 (h.upW hk (by omega) (ow_C (f := 0) hi (by omega)) (by rw [pw_C hi]; simp [upd]; try omega)))
theorem gX5_98 (X : Cx p s m args c cc nL RX5 E B) (hJ : JG E B s g H locs) (hk : k < 11) {i : Nat} (hi : i < 8) (hw : g.1 k = w) (hdg : decode cc pc = .ok (.getfield 98, 3))
    (kk : W p l e R s m args below meth c H locs cells slots Q (F0 m (pc + 3) ls (.int (w (104 + 8 * i + 1)) :: rest))) : W p l e R s m args below meth c H locs cells slots Q (F0 m pc ls (.ref (B + (wo k + (17 + 3 * i))) :: rest)) :=
  rget X hJ rfl inT1 2 (by decide) (tw (i := 101) (by decide +kernel) (by decide)) rfl (lt_W hk (by omega)) (at_C hk hi hw) rfl hdg kk
theorem pX5_98 (X : Cx p s m args c cc nL RX5 E B) (hJ : JG E B s (upW g k w) H locs) (hk : k < 11) {i : Nat} (hi : i < 8)  (hdg : decode cc pc = .ok (.putfield 98, 3))
    (kk : ∀ (H1 : Heap) (locs1 : List Loc), JG E B s (upW g k (upd w (104 + 8 * i + 1) v)) H1 locs1 → W p l e R s m args below meth c H1 locs1 cells slots Q (F0 m (pc + 3) ls rest)) : W p l e R s m args below meth c H locs cells slots Q (F0 m pc ls (.int v :: .ref (B + (wo k + (17 + 3 * i))) :: rest)) :=
  rput X hJ rfl inT1 tyX1_ok nmX1 2 (by decide) (tw (i := 101) (by decide +kernel) (by decide)) rfl rfl rfl rfl (lt_W hk (by omega)) (at_C hk hi upW_1) (Nat.le_of_ble_eq_true rfl) hdg (fun H1 locs1 h => kk H1 locs1 (h.upW hk (by omega) (ow_C (f := 1) hi (by omega)) (by rw [pw_C hi]; simp [upd]; try omega)))
theorem gX5_101 (X : Cx p s m args c cc nL RX5 E B) (hJ : JG E B s g H locs) (hk : k < 11) {i : Nat} (hi : i < 8) (hw : g.1 k = w) (hdg : decode cc pc = .ok (.getfield 101, 3))
    (kk : W p l e R s m args below meth c H locs cells slots Q (F0 m (pc + 3) ls (.int (nI i) :: rest))) : W p l e R s m args below meth c H locs cells slots Q (F0 m pc ls (.ref (B + (wo k + (17 + 3 * i))) :: rest)) :=
  rget X hJ rfl inT1 0 (by decide) (tw (i := 95) (by decide +kernel) (by decide)) rfl (lt_W hk (by omega)) (at_C hk hi hw) rfl hdg kk
theorem gX5_118 (X : Cx p s m args c cc nL RX5 E B) (hJ : JG E B s g H locs) (hk : k < 11) {i : Nat} (hi : i < 8) (hw : g.1 k = w) (hdg : decode cc pc = .ok (.getfield 118, 3))
    (kk : W p l e R s m args below meth c H locs cells slots Q (F0 m (pc + 3) ls (.int (w (104 + 8 * i + 2)) :: rest))) : W p l e R s m args below meth c H locs cells slots Q (F0 m pc ls (.ref (B + (wo k + (17 + 3 * i))) :: rest)) :=
  rget X hJ rfl inT1 3 (by decide) (tw (i := 104) (by decide +kernel) (by decide)) rfl (lt_W hk (by omega)) (at_C hk hi hw) rfl hdg kk
theorem pX5_118 (X : Cx p s m args c cc nL RX5 E B) (hJ : JG E B s (upW g k w) H locs) (hk : k < 11) {i : Nat} (hi : i < 8)  (hdg : decode cc pc = .ok (.putfield 118, 3))
    (kk : ∀ (H1 : Heap) (locs1 : List Loc), JG E B s (upW g k (upd w (104 + 8 * i + 2) v)) H1 locs1 → W p l e R s m args below meth c H1 locs1 cells slots Q (F0 m (pc + 3) ls rest)) : W p l e R s m args below meth c H locs cells slots Q (F0 m pc ls (.int v :: .ref (B + (wo k + (17 + 3 * i))) :: rest)) :=
  rput X hJ rfl inT1 tyX1_ok nmX1 3 (by decide) (tw (i := 104) (by decide +kernel) (by decide)) rfl rfl rfl rfl (lt_W hk (by omega)) (at_C hk hi upW_1) (Nat.le_of_ble_eq_true rfl) hdg (fun H1 locs1 h => kk H1 locs1 (h.upW hk (by omega) (ow_C (f := 2) hi (by omega)) (by rw [pw_C hi]; simp [upd]; try omega)))
theorem gX5_121 (X : Cx p s m args c cc nL RX5 E B) (hJ : JG E B s g H locs) (hk : k < 11) {i : Nat} (hi : i < 8) (hw : g.1 k = w) (hdg : decode cc pc = .ok (.getfield 121, 3))
    (kk : W p l e R s m args below meth c H locs cells slots Q (F0 m (pc + 3) ls (.int (w (104 + 8 * i + 3)) :: rest))) : W p l e R s m args below meth c H locs cells slots Q (F0 m pc ls (.ref (B + (wo k + (17 + 3 * i))) :: rest)) :=
  rget X hJ rfl inT1 4 (by decide) (tw (i := 106) (by decide +kernel) (by decide)) rfl (lt_W hk (by omega)) (at_C hk hi hw) rfl hdg kk
theorem pX5_121 (X : Cx p s m args c cc nL RX5 E B) (hJ : JG E B s (upW g k w) H locs) (hk : k < 11) {i : Nat} (hi : i < 8)  (hdg : decode cc pc = .ok (.putfield 121, 3))
    (kk : ∀ (H1 : Heap) (locs1 : List Loc), JG E B s (upW g k (upd w (104 + 8 * i + 3) v)) H1 locs1 → W p l e R s m args below meth c H1 locs1 cells slots Q (F0 m (pc + 3) ls rest)) : W p l e R s m args below meth c H locs cells slots Q (F0 m pc ls (.int v :: .ref (B + (wo k + (17 + 3 * i))) :: rest)) :=
  rput X hJ rfl inT1 tyX1_ok nmX1 4 (by decide) (tw (i := 106) (by decide +kernel) (by decide)) rfl rfl rfl rfl (lt_W hk (by omega)) (at_C hk hi upW_1) (Nat.le_of_ble_eq_true rfl) hdg (fun H1 locs1 h => kk H1 locs1 (h.upW hk (by omega) (ow_C (f := 3) hi (by omega)) (by rw [pw_C hi]; simp [upd]; try omega)))
theorem gX5_124 (X : Cx p s m args c cc nL RX5 E B) (hJ : JG E B s g H locs) (hk : k < 11) {i : Nat} (hi : i < 12) (hw : g.1 k = w) (hdg : decode cc pc = .ok (.getfield 124, 3))
    (kk : W p l e R s m args below meth c H locs cells slots Q (F0 m (pc + 3) ls (.int (w (360 + i)) :: rest))) : W p l e R s m args below meth c H locs cells slots Q (F0 m pc ls (.ref (B + (wo k + (5 + i))) :: rest)) :=
  rget X hJ rfl inT0 5 (by decide) (tw (i := 61) (by decide +kernel) (by decide)) rfl (lt_W hk (by omega)) (at_B hk hi hw) rfl hdg kk
theorem pX5_124 (X : Cx p s m args c cc nL RX5 E B) (hJ : JG E B s (upW g k w) H locs) (hk : k < 11) {i : Nat} (hi : i < 12)  (hdg : decode cc pc = .ok (.putfield 124, 3))
    (kk : ∀ (H1 : Heap) (locs1 : List Loc), JG E B s (upW g k (upd w (360 + i) v)) H1 locs1 → W p l e R s m args below meth c H1 locs1 cells slots Q (F0 m (pc + 3) ls rest)) : W p l e R s m args below meth c H locs cells slots Q (F0 m pc ls (.int v :: .ref (B + (wo k + (5 + i))) :: rest)) :=
  rput X hJ rfl inT0 tyX0_ok nmX0 5 (by decide) (tw (i := 61) (by decide +kernel) (by decide)) rfl rfl rfl rfl (lt_W hk (by omega)) (at_B hk hi upW_1) (Nat.le_of_ble_eq_true rfl) hdg (fun H1 locs1 h => kk H1 locs1 (h.upW hk (by omega) (ow_Bw hi) (by rw [pw_B hi]; simp [upd]; try omega)))
theorem gX5_149 (X : Cx p s m args c cc nL RX5 E B) (hJ : JG E B s g H locs) (hk : k < 11) {i : Nat} (hi : i < 8) (hw : g.1 k = w) (hdg : decode cc pc = .ok (.getfield 149, 3))
    (kk : W p l e R s m args below meth c H locs cells slots Q (F0 m (pc + 3) ls (.int (w (104 + 8 * i + 4)) :: rest))) : W p l e R s m args below meth c H locs cells slots Q (F0 m pc ls (.ref (B + (wo k + (17 + 3 * i))) :: rest)) :=
  rget X hJ rfl inT1 5 (by decide) (tw (i := 108) (by decide +kernel) (by decide)) rfl (lt_W hk (by omega)) (at_C hk hi hw) rfl hdg kk
theorem pX5_149 (X : Cx p s m args c cc nL RX5 E B) (hJ : JG E B s (upW g k w) H locs) (hk : k < 11) {i : Nat} (hi : i < 8)  (hdg : decode cc pc = .ok (.putfield 149, 3))
    (kk : ∀ (H1 : Heap) (locs1 : List Loc), JG E B s (upW g k (upd w (104 + 8 * i + 4) v)) H1 locs1 → W p l e R s m args below meth c H1 locs1 cells slots Q (F0 m (pc + 3) ls rest)) : W p l e R s m args below meth c H locs cells slots Q (F0 m pc ls (.int v :: .ref (B + (wo k + (17 + 3 * i))) :: rest)) :=
  rput X hJ rfl inT1 tyX1_ok nmX1 5 (by decide) (tw (i := 108) (by decide +kernel) (by decide)) rfl rfl rfl rfl (lt_W hk (by omega)) (at_C hk hi upW_1) (Nat.le_of_ble_eq_true rfl) hdg (fun H1 locs1 h => kk H1 locs1 (h.upW hk (by omega) (ow_C (f := 4) hi (by omega)) (by rw [pw_C hi]; simp [upd]; try omega)))
theorem gX5_160 (X : Cx p s m args c cc nL RX5 E B) (hJ : JG E B s g H locs) (hk : k < 11) {i : Nat} (hi : i < 12) (hw : g.1 k = w) (hdg : decode cc pc = .ok (.getfield 160, 3))
    (kk : W p l e R s m args below meth c H locs cells slots Q (F0 m (pc + 3) ls (.int (w (20 + 7 * i + 6)) :: rest))) : W p l e R s m args below meth c H locs cells slots Q (F0 m pc ls (.ref (B + (wo k + (5 + i))) :: rest)) :=
  rget X hJ rfl inT0 8 (by decide) (tw (i := 68) (by decide +kernel) (by decide)) rfl (lt_W hk (by omega)) (at_B hk hi hw) rfl hdg kk
theorem pX5_160 (X : Cx p s m args c cc nL RX5 E B) (hJ : JG E B s (upW g k w) H locs) (hk : k < 11) {i : Nat} (hi : i < 12)  (hdg : decode cc pc = .ok (.putfield 160, 3))
    (kk : ∀ (H1 : Heap) (locs1 : List Loc), JG E B s (upW g k (upd w (20 + 7 * i + 6) v)) H1 locs1 → W p l e R s m args below meth c H1 locs1 cells slots Q (F0 m (pc + 3) ls rest)) : W p l e R s m args below meth c H locs cells slots Q (F0 m pc ls (.int v :: .ref (B + (wo k + (5 + i))) :: rest)) :=
  rput X hJ rfl inT0 tyX0_ok nmX0 8 (by decide) (tw (i := 68) (by decide +kernel) (by decide)) rfl rfl rfl rfl (lt_W hk (by omega)) (at_B hk hi upW_1) (Nat.le_of_ble_eq_true rfl) hdg (fun H1 locs1 h => kk H1 locs1 (h.upW hk (by omega) (ow_B (f := 6) hi (by omega)) (by rw [pw_B hi]; simp [upd]; try omega)))
theorem gX5_169 (X : Cx p s m args c cc nL RX5 E B) (hJ : JG E B s g H locs) (hk : k < 11) {i : Nat} (hi : i < 12) (hw : g.1 k = w) (hdg : decode cc pc = .ok (.getfield 169, 3))
    (kk : W p l e R s m args below meth c H locs cells slots Q (F0 m (pc + 3) ls (.int (w (20 + 7 * i + 3)) :: rest))) : W p l e R s m args below meth c H locs cells slots Q (F0 m pc ls (.ref (B + (wo k + (5 + i))) :: rest)) :=
  rget X hJ rfl inT0 4 (by decide) (tw (i := 59) (by decide +kernel) (by decide)) rfl (lt_W hk (by omega)) (at_B hk hi hw) rfl hdg kk
theorem pX5_169 (X : Cx p s m args c cc nL RX5 E B) (hJ : JG E B s (upW g k w) H locs) (hk : k < 11) {i : Nat} (hi : i < 12)  (hdg : decode cc pc = .ok (.putfield 169, 3))
    (kk : ∀ (H1 : Heap) (locs1 : List Loc), JG E B s (upW g k (upd w (20 + 7 * i + 3) v)) H1 locs1 → W p l e R s m args below meth c H1 locs1 cells slots Q (F0 m (pc + 3) ls rest)) : W p l e R s m args below meth c H locs cells slots Q (F0 m pc ls (.int v :: .ref (B + (wo k + (5 + i))) :: rest)) :=
  rput X hJ rfl inT0 tyX0_ok nmX0 4 (by decide) (tw (i := 59) (by decide +kernel) (by decide)) rfl rfl rfl rfl (lt_W hk (by omega)) (at_B hk hi upW_1) (Nat.le_of_ble_eq_true rfl) hdg (fun H1 locs1 h => kk H1 locs1 (h.upW hk (by omega) (ow_B (f := 3) hi (by omega)) (by rw [pw_B hi]; simp [upd]; try omega)))
theorem gX5_179 (X : Cx p s m args c cc nL RX5 E B) (hJ : JG E B s g H locs) (hk : k < 11) {i : Nat} (hi : i < 8) (hw : g.1 k = w) (hdg : decode cc pc = .ok (.getfield 179, 3))
    (kk : W p l e R s m args below meth c H locs cells slots Q (F0 m (pc + 3) ls (.int (w (104 + 8 * i + 5)) :: rest))) : W p l e R s m args below meth c H locs cells slots Q (F0 m pc ls (.ref (B + (wo k + (17 + 3 * i))) :: rest)) :=
  rget X hJ rfl inT1 6 (by decide) (tw (i := 110) (by decide +kernel) (by decide)) rfl (lt_W hk (by omega)) (at_C hk hi hw) rfl hdg kk
theorem pX5_179 (X : Cx p s m args c cc nL RX5 E B) (hJ : JG E B s (upW g k w) H locs) (hk : k < 11) {i : Nat} (hi : i < 8)  (hdg : decode cc pc = .ok (.putfield 179, 3))
    (kk : ∀ (H1 : Heap) (locs1 : List Loc), JG E B s (upW g k (upd w (104 + 8 * i + 5) v)) H1 locs1 → W p l e R s m args below meth c H1 locs1 cells slots Q (F0 m (pc + 3) ls rest)) : W p l e R s m args below meth c H locs cells slots Q (F0 m pc ls (.int v :: .ref (B + (wo k + (17 + 3 * i))) :: rest)) :=
  rput X hJ rfl inT1 tyX1_ok nmX1 6 (by decide) (tw (i := 110) (by decide +kernel) (by decide)) rfl rfl rfl rfl (lt_W hk (by omega)) (at_C hk hi upW_1) (Nat.le_of_ble_eq_true rfl) hdg (fun H1 locs1 h => kk H1 locs1 (h.upW hk (by omega) (ow_C (f := 5) hi (by omega)) (by rw [pw_C hi]; simp [upd]; try omega)))
theorem gX5_182 (X : Cx p s m args c cc nL RX5 E B) (hJ : JG E B s g H locs) (hk : k < 11) {i : Nat} (hi : i < 12) (hw : g.1 k = w) (hdg : decode cc pc = .ok (.getfield 182, 3))
    (kk : W p l e R s m args below meth c H locs cells slots Q (F0 m (pc + 3) ls (.int (w (20 + 7 * i + 5)) :: rest))) : W p l e R s m args below meth c H locs cells slots Q (F0 m pc ls (.ref (B + (wo k + (5 + i))) :: rest)) :=
  rget X hJ rfl inT0 7 (by decide) (tw (i := 66) (by decide +kernel) (by decide)) rfl (lt_W hk (by omega)) (at_B hk hi hw) rfl hdg kk
theorem pX5_182 (X : Cx p s m args c cc nL RX5 E B) (hJ : JG E B s (upW g k w) H locs) (hk : k < 11) {i : Nat} (hi : i < 12)  (hdg : decode cc pc = .ok (.putfield 182, 3))
    (kk : ∀ (H1 : Heap) (locs1 : List Loc), JG E B s (upW g k (upd w (20 + 7 * i + 5) v)) H1 locs1 → W p l e R s m args below meth c H1 locs1 cells slots Q (F0 m (pc + 3) ls rest)) : W p l e R s m args below meth c H locs cells slots Q (F0 m pc ls (.int v :: .ref (B + (wo k + (5 + i))) :: rest)) :=
  rput X hJ rfl inT0 tyX0_ok nmX0 7 (by decide) (tw (i := 66) (by decide +kernel) (by decide)) rfl rfl rfl rfl (lt_W hk (by omega)) (at_B hk hi upW_1) (Nat.le_of_ble_eq_true rfl) hdg (fun H1 locs1 h => kk H1 locs1 (h.upW hk (by omega) (ow_B (f := 5) hi (by omega)) (by rw [pw_B hi]; simp [upd]; try omega)))
end LK
