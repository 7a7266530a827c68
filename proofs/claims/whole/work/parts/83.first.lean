/-! the first state of both sides -/
def ir : Row := fun j => if j = 0 then 3 else if j = 1 then 1 else if j = 2 then 2 else if j = 3 then 5 else if j = 7 then 1 else 0
def iz : Row := fun _ => 0
def iw : Row := fun j => if 104 ≤ j ∧ j < 168 ∧ ((j - 104) % 8 = 2 ∨ (j - 104) % 8 = 3) then -6 else ir j
theorem z_sm {n : Nat} : sm (0 : Int32) n := ⟨by decide, by rw [show (0 : Int32).toInt = 0 from by decide]; omega⟩
theorem sumN_0 {f : Nat → Int} : ∀ (n : Nat), (∀ k, k < n → f k = 0) → sumN f n = 0 := by
  intro n
  induction n with
  | zero => intro _; rfl
  | succ n ih =>
    intro h
    rw [sumN, ih (fun k hk => h k (by omega)), h n (by omega)]; rfl
theorem Inv_first {w : Row} (h0 : ∀ j, j < 4 → sm (w j) 50) (h7 : sm (w 7) 65536) (hz : ∀ j, 4 ≤ j → ¬ j = 7 → w j = 0) : Inv w := by
  have n0 : nn (0 : Int32) = 0 := nn_zero
  have z5 : nn (w 5) = 0 := by rw [hz 5 (by omega) (by omega), n0]
  have z6 : nn (w 6) = 0 := by rw [hz 6 (by omega) (by omega), n0]
  have z10 : nn (w 10) = 0 := by rw [hz 10 (by omega) (by omega), n0]
  have t0 : (0 : Int32).toInt = 0 := by decide
  have q0 : qs w = [] := by
    unfold qs
    rw [z10]; rfl
  have s : ∀ j n, 4 ≤ j → ¬ j = 7 → sm (w j) n := fun j n a b => by rw [hz j a b]; exact z_sm
  refine ⟨⟨⟨s _ _ (by omega) (by omega), s _ _ (by omega) (by omega), s _ _ (by omega) (by omega)⟩, fun k _ => s _ _ (by omega) (by omega), fun i _ => ⟨s _ _ (by omega) (by omega), s _ _ (by omega) (by omega), s _ _ (by omega) (by omega)⟩, fun i _ h => by omega⟩,
    ⟨by rw [q0]; exact List.nodup_nil, fun c h => by rw [q0] at h; exact absurd h (List.not_mem_nil), fun c h => by omega⟩,
    ⟨fun i _ _ => ⟨hz _ (by omega) (by omega), hz _ (by omega) (by omega), hz _ (by omega) (by omega)⟩, fun c _ _ => ⟨hz _ (by omega) (by omega), hz _ (by omega) (by omega), hz _ (by omega) (by omega), hz _ (by omega) (by omega), hz _ (by omega) (by omega)⟩, fun c i _ _ h => by omega, fun c i _ _ _ => ⟨hz _ (by omega) (by omega), hz _ (by omega) (by omega)⟩⟩,
    fun c _ _ => hz _ (by omega) (by omega), fun c i _ _ h => by omega,
    ⟨h7, fun i _ => s _ _ (by omega) (by omega), fun c _ => Or.inr (s _ _ (by omega) (by omega))⟩,
    ⟨fun c _ => ?_, fun i _ => ?_, ?_, ?_⟩, ⟨h0 0 (by omega), h0 1 (by omega), h0 2 (by omega), h0 3 (by omega)⟩, fun c _ => s _ _ (by omega) (by omega), ?_⟩
  · unfold co; rw [hz _ (by omega) (by omega), t0]; omega
  · unfold tl; rw [hz _ (by omega) (by omega), t0]; omega
  · rw [sumN_0 8 (fun k _ => by unfold co; rw [hz _ (by omega) (by omega), t0]), sumN_0 12 (fun k _ => by unfold tl; rw [hz _ (by omega) (by omega), t0]), hz 8 (by omega) (by omega), t0]; rfl
  · rw [hz 8 (by omega) (by omega), t0]; omega
  · unfold IX
    rw [sumI_congr (g := fun _ => 0) 8 (fun k _ => hz _ (by omega) (by omega)), sumI_congr (g := fun _ => 0) 12 (fun k _ => hz _ (by omega) (by omega))]; rfl
theorem ir_z {j : Nat} (h : 4 ≤ j) (h7 : ¬ j = 7) : ir j = 0 := by
  unfold ir
  rw [if_neg (by omega), if_neg (by omega), if_neg (by omega), if_neg (by omega), if_neg h7]
theorem Inv_ir : Inv ir := Inv_first (fun j hj => by
  rcases (show j = 0 ∨ j = 1 ∨ j = 2 ∨ j = 3 by omega) with e | e | e | e <;> subst e
  · exact sm_nI (j := 3) (n := 50) (by omega) (by omega)
  · exact sm_nI (j := 1) (n := 50) (by omega) (by omega)
  · exact sm_nI (j := 2) (n := 50) (by omega) (by omega)
  · exact sm_nI (j := 5) (n := 50) (by omega) (by omega)) (sm_nI (j := 1) (n := 65536) (by omega) (by omega)) (fun j h h7 => ir_z h h7)
theorem Inv_iz : Inv iz := Inv_first (fun _ _ => z_sm) z_sm (fun _ _ _ => rfl)
theorem iw_o {j : Nat} (h : ¬ (104 ≤ j ∧ j < 168 ∧ ((j - 104) % 8 = 2 ∨ (j - 104) % 8 = 3))) : iw j = ir j := if_neg h
theorem iw_6 {c f : Nat} (hc : c < 8) (hf : f = 2 ∨ f = 3) : iw (104 + 8 * c + f) = -6 := if_pos ⟨by omega, by omega, by omega⟩
theorem qs_z {w : Row} (h : nn (w 10) = 0) : qs w = [] := by
  unfold qs
  rw [h]; rfl
theorem Rel_first : Rel iw ir := by
  have z10 : nn (ir 10) = 0 := by rw [ir_z (by omega) (by omega)]; exact nn_zero
  have z6 : nn (ir 6) = 0 := by rw [ir_z (by omega) (by omega)]; exact nn_zero
  have q0 := qs_z z10
  have q1 : qs iw = [] := qs_z (by rw [iw_o (by omega)]; exact z10)
  refine ⟨fun j hj => iw_o (by omega), by rw [q0, q1], fun k hk => ?_, fun j h1 h2 => iw_o (by omega), fun c f hc hf h => ?_, fun j h1 h2 => iw_o (by omega), fun i hi => ?_, fun c hc _ => ⟨iw_6 hc (Or.inl rfl), iw_6 hc (Or.inr rfl)⟩⟩
  · rw [iw_o (by omega), ir_z (by omega) (by omega)]; exact z_sm
  · by_cases e : f = 2 ∨ f = 3
    · have := h e; omega
    · exact iw_o (by omega)
  · rw [iw_o (by omega), ir_z (by omega) (by omega), q0]; rfl
theorem RG_first {g : GS} (h1 : ∀ k, k < 11 → g.1 k = iw) (hc : g.2.1 0 = 0 ∧ g.2.1 1 = 0 ∧ g.2.1 3 = 0 ∧ g.2.1 10 = 0 ∧ g.2.1 11 = 0) (ht0 : g.2.2.1 0 = ir) (ht : ∀ t, 0 < t → t < 10 → g.2.2.1 t = iz)
    (hr : g.2.2.2 0 = 0 ∧ g.2.2.2 1 = 0 ∧ g.2.2.2 2 = 0 ∧ g.2.2.2 10 = 0 ∧ g.2.2.2 11 = 0) : RG g := by
  obtain ⟨c0, c1, c3, c10, c11⟩ := hc
  obtain ⟨r0, r1, r2, r10, r11⟩ := hr
  have n0 : nn (0 : Int32) = 0 := nn_zero
  refine ⟨⟨fun k hk => ?_, ?_, ?_⟩, ⟨fun t h => ?_, ⟨?_, ?_⟩, ?_⟩, ?_, ⟨?_, fun k hk => ?_⟩, fun s hs => ?_, ⟨?_, fun k hk => ?_⟩⟩
  · rw [h1 k hk]; exact Rel_first.cn Inv_ir.1.1
  · show sm (g.2.1 3) 80
    rw [c3]; exact z_sm
  · show sm (g.2.1 0) 6
    rw [c0]; exact z_sm
  · by_cases e : t = 0
    · rw [e, ht0]; exact Inv_ir
    · rw [ht t (by omega) h]; exact Inv_iz
  · rw [r1]; exact z_sm
  · rw [r2]; exact z_sm
  · rw [r0]; exact z_sm
  · rw [h1 0 (by omega), ht0]; exact Rel_first
  · rw [c1, r0]
  · rw [r0, n0] at hk; omega
  · rcases (show s = 0 ∨ s = 1 by omega) with e | e <;> subst e
    · exact ⟨by rw [c10, r10], fun q => absurd r10 q⟩
    · exact ⟨by rw [c11, r11], fun q => absurd r11 q⟩
  · rw [c3, r1]
  · rw [r1, n0] at hk; omega
