/-! the reference's reader: words, numbers, expressions -/
section ReadME
def numS (tp : Nat → Int32) (N : Nat) (lo hi : Int) (s : Nat) : (Nat × Nat) ⊕ (Nat × Int) := if kdS tp N s = 3 then (if 4 < enS tp N s - s ∨ nvS tp N s < lo ∨ hi < nvS tp N s then .inl (2, s) else .inr (nxS tp N s, nvS tp N s)) else .inl (1, s)
def knS (tp : Nat → Int32) (N s : Nat) : Option Nat := if wdB tp N 2 s = true then some 0 else if wdB tp N 3 s = true then some 1 else if wdB tp N 4 s = true then some 2 else if wdB tp N 5 s = true then some 3 else none
variable {d : Nat} {F A F0 A0 F' A' : Nat → Nat → Int32} {J : Nat → Nat → Int64} {G : pG} {Q : pR → pM → Prop} {SL p q : Nat} {tp : Nat → Int32} {N s i j w k : Nat} {c : List Int} {P E : Nat → List Int → RdR} {x1 : Int32} {e : Nat × Nat}
theorem tk_1 (hC : MR F0 A0 tp N F A s c) : (F 68 16 = 1) = (kdS tp N s = 2) := by
  have h4 := kd_4 (tp := tp) (N := N) (s := s)
  rw [hC.2.2.2.2.2.2.2.1, show (1 : Int32) = zI ((1 : Nat) : Int) from rfl, tkM]
  split
  · rw [zN_eq (by omega) (by omega)]; apply propext; omega
  · rw [zN_eq (by omega) (by omega)]; apply propext; omega
theorem tk_2 (hC : MR F0 A0 tp N F A s c) : (F 68 16 = 2) = (kdS tp N s = 3) := by
  have h4 := kd_4 (tp := tp) (N := N) (s := s)
  rw [hC.2.2.2.2.2.2.2.1, show (2 : Int32) = zI ((2 : Nat) : Int) from rfl, tkM]
  split
  · rw [zN_eq (by omega) (by omega)]; apply propext; omega
  · rw [zN_eq (by omega) (by omega)]; apply propext; omega
theorem tk_3 (hC : MR F0 A0 tp N F A s c) : (F 68 16 = 3) = (kdS tp N s = 4) := by
  have h4 := kd_4 (tp := tp) (N := N) (s := s)
  rw [hC.2.2.2.2.2.2.2.1, show (3 : Int32) = zI ((3 : Nat) : Int) from rfl, tkM]
  split
  · rw [zN_eq (by omega) (by omega)]; apply propext; omega
  · rw [zN_eq (by omega) (by omega)]; apply propext; omega
theorem tk_0 (hC : MR F0 A0 tp N F A s c) : (F 68 16 = 0) = (kdS tp N s = 0) := by
  have h4 := kd_4 (tp := tp) (N := N) (s := s)
  rw [hC.2.2.2.2.2.2.2.1, show (0 : Int32) = zI ((0 : Nat) : Int) from rfl, tkM]
  have hk : ¬ kdS tp N s = 2 ∨ kdS tp N s = 2 := by omega
  split
  · rw [zN_eq (by omega) (by omega)]; apply propext; omega
  · rename_i h1
    rw [zN_eq (by omega) (by omega)]; apply propext; omega
theorem mk_eq (hC : MR F0 A0 tp N F A s c) (x : Int32) : mkB (F 68 20) (F 68 16) (A 80 (F 68 18).toNatClampNeg) x = sgB tp N x s := by
  unfold mkB sgB
  have h3 := tk_3 hC
  obtain ⟨_, ⟨n6, hB, hA, hs, hc⟩, f15, f20, f18, f14, f19, f16, f17, a7, hcd⟩ := hC
  by_cases h4 : kdS tp N s = 4
  · have hlt := kd_lt h4 (by decide)
    rw [f20, decide_eq_true (h3.symm ▸ h4 : F 68 16 = 3), f18, zI_clamp (by omega), hA s hlt]
    by_cases hx : tp s = x
    · rw [decide_eq_true hx, decide_eq_true (show kdS tp N s = 4 ∧ tp s = x from ⟨h4, hx⟩)]; rfl
    · rw [decide_eq_false hx, decide_eq_false (p := kdS tp N s = 4 ∧ tp s = x) (fun h => hx h.2)]; rfl
  · rw [decide_eq_false (fun h => h4 (h3 ▸ h) : ¬ F 68 16 = 3), decide_eq_false (p := kdS tp N s = 4 ∧ tp s = x) (fun h => h4 h.1), Bool.false_and, Bool.and_false]
theorem mk_in (hC : MR F0 A0 tp N F A s c) : F 68 20 = 0 → F 68 16 = 3 → inB (F 68 18) 600 = true := by
  intro _ h
  rw [tk_3 hC] at h
  have hlt := kd_lt h (by decide)
  rw [hC.2.2.2.2.1]
  exact zN_in (by have := hC.2.1.1; omega) (by decide)
theorem mk_bad (hE : ME F0 A0 F A e) (t y x : Int32) : mkB (F 68 20) t y x = false := by
  unfold mkB; rw [decide_eq_false (ME_b hE)]; rfl
theorem mk2_if {P1 P2 P' : Prop} {x y : Int32} (hC : MR F0 A0 tp N F A s c) (h1 : sgB tp N x s = true → P1) (h2 : sgB tp N x s = false → sgB tp N y s = true → P2) (h3 : sgB tp N x s = false → sgB tp N y s = false → P') : (F 68 20 = 0 → F 68 16 = 3 → inB (F 68 18) 600 = true) ∧ (((mkB (F 68 20) (F 68 16) (A 80 (F 68 18).toNatClampNeg) x) = true → (((mkB (F 68 20) (F 68 16) (A 80 (F 68 18).toNatClampNeg) x) = true → P1) ∧ ((mkB (F 68 20) (F 68 16) (A 80 (F 68 18).toNatClampNeg) x) = false → P2))) ∧ ((mkB (F 68 20) (F 68 16) (A 80 (F 68 18).toNatClampNeg) x) = false → (((mkB (F 68 20) (F 68 16) (A 80 (F 68 18).toNatClampNeg) y) = true → (((mkB (F 68 20) (F 68 16) (A 80 (F 68 18).toNatClampNeg) x) = true → P1) ∧ ((mkB (F 68 20) (F 68 16) (A 80 (F 68 18).toNatClampNeg) x) = false → P2))) ∧ ((mkB (F 68 20) (F 68 16) (A 80 (F 68 18).toNatClampNeg) y) = false → P')))) := by
  rw [mk_eq hC, mk_eq hC]
  refine ⟨mk_in hC, fun ha => ⟨fun _ => h1 ha, fun hb => ?_⟩, fun ha => ⟨fun hb => ⟨fun hc => ?_, fun _ => h2 ha hb⟩, fun hb => h3 ha hb⟩⟩
  · rw [ha] at hb; cases hb
  · rw [ha] at hc; cases hc
theorem mk2_bad {P1 P2 P' : Prop} {x y : Int32} (hE : ME F0 A0 F A e) (h3 : P') : (F 68 20 = 0 → F 68 16 = 3 → inB (F 68 18) 600 = true) ∧ (((mkB (F 68 20) (F 68 16) (A 80 (F 68 18).toNatClampNeg) x) = true → (((mkB (F 68 20) (F 68 16) (A 80 (F 68 18).toNatClampNeg) x) = true → P1) ∧ ((mkB (F 68 20) (F 68 16) (A 80 (F 68 18).toNatClampNeg) x) = false → P2))) ∧ ((mkB (F 68 20) (F 68 16) (A 80 (F 68 18).toNatClampNeg) x) = false → (((mkB (F 68 20) (F 68 16) (A 80 (F 68 18).toNatClampNeg) y) = true → (((mkB (F 68 20) (F 68 16) (A 80 (F 68 18).toNatClampNeg) x) = true → P1) ∧ ((mkB (F 68 20) (F 68 16) (A 80 (F 68 18).toNatClampNeg) x) = false → P2))) ∧ ((mkB (F 68 20) (F 68 16) (A 80 (F 68 18).toNatClampNeg) y) = false → P')))) := by
  rw [mk_bad hE, mk_bad hE]
  exact ⟨fun h => absurd h (ME_b hE), fun ha => absurd ha (by decide), fun _ => ⟨fun hb => absurd hb (by decide), fun _ => h3⟩⟩
/-- is it this word -/
theorem m_189 (hG : Geo G SL p q) (hi : i < 18) (hC : MR F0 A0 tp N F A s c) (h1 : wdB tp N i s = true → Q (.inl (some (.int 1))) (F, A, J, G)) (h0 : wdB tp N i s = false → Q (.inl (some (.int 0))) (F, A, J, G)) : X d 189 0 [.ref 68, .ref (1000 + i), .null, .null] [] (F, A, J, G) Q := by
  have e1 := tk_1 hC
  obtain ⟨_, ⟨n6, hB, hA, hs, hc⟩, f15, f20, f18, f14, f19, f16, f17, a7, hcd⟩ := hC
  have hlen := slen_b i hi
  have hsi : 1000 + i - 1000 = i := by omega
  have hss : 1000 ≤ 1000 + i ∧ 1000 + i < 1000 + sBy.length := ⟨by omega, by have := sby_len; omega⟩
  have hge : s ≤ enS tp N s := by
    by_cases h : s < N
    · exact Nat.le_of_lt (en_gt h)
    · rw [enS, if_pos (by omega)]; exact Nat.le_refl _
  have hle := en_le (tp := tp) hs
  have zero : ∀ x3, wdB tp N i s = false → X d 189 39 [.ref 68, .ref (1000 + i), .int 0, .int x3] [] (F, A, J, G) Q := fun x3 hw => t_189_39 hG hss ⟨fun _ => ⟨Or.inl rfl, h0 hw⟩, fun h => absurd rfl h⟩
  refine t_189_0 hG hss ?_
  rw [hsi, e1, f18, f19, f20, zI_sub, show (enS tp N s : Int) - (s : Int) = ((enS tp N s - s : Nat) : Int) by omega, zI_nI, zN_eq (by omega) (by omega)]
  refine ⟨fun _ => ⟨fun hk => ⟨fun hl => ?_, fun hl => zero _ (decide_eq_false (fun h => hl h.2.1.symm))⟩, fun hk => zero _ (decide_eq_false (fun h => hk h.1))⟩, fun h => absurd rfl h⟩
  have hlt := kd_lt hk (by decide)
  refine up_ind (h := sLen i) (P := fun k => (∀ m, m < k → tp (s + m) = sCh i m) → X d 189 39 [.ref 68, .ref (1000 + i), .int 1, .int (zI (k : Int))] [] (F, A, J, G) Q) ?_ ?_ (fun m hm => absurd hm (Nat.not_lt_zero m))
  · intro hall
    refine t_189_39 hG hss ⟨fun h => absurd h (by decide), fun _ => ?_⟩
    rw [hsi, zI_nI, zN_lt (by omega) (by omega)]
    exact ⟨fun h => absurd h (Nat.lt_irrefl _), fun _ => ⟨Or.inr rfl, h1 (decide_eq_true ⟨hk, hl.symm, hall⟩)⟩⟩
  · intro k hk' ih hall
    have hsk : s + k < N := by omega
    refine t_189_39 hG hss ⟨fun h => absurd h (by decide), fun _ => ?_⟩
    rw [hsi, zI_nI, zN_lt (by omega) (by omega), f18, zN_add, zI_clamp (n := s + k) (by omega), zI_clamp (n := k) (by omega), hA _ hsk, zN_1]
    refine ⟨fun _ => ⟨zN_in hk' (by omega), zN_in (by omega) (by decide), fun he => ih (fun m hm => ?_), fun he => zero _ (decide_eq_false (fun h => he (h.2.2 k hk').symm))⟩, fun h => absurd hk' h⟩
    by_cases e : m = k
    · rw [e, he]
    · exact hall m (by omega)
theorem m_189b (hG : Geo G SL p q) (hi : i < 18) (hE : ME F0 A0 F A e) (h0 : Q (.inl (some (.int 0))) (F, A, J, G)) : X d 189 0 [.ref 68, .ref (1000 + i), .null, .null] [] (F, A, J, G) Q := by
  have hss : 1000 ≤ 1000 + i ∧ 1000 + i < 1000 + sBy.length := ⟨by omega, by have := sby_len; omega⟩
  exact t_189_0 hG hss ⟨fun h => absurd h (ME_b hE), fun _ => t_189_39 hG hss ⟨fun _ => ⟨Or.inl rfl, h0⟩, fun h => absurd rfl h⟩⟩
theorem gr_70 (hG : Geo G SL p q) : ∀ k, k < 6 → gR G 70 k = 1000 + (10 + k) + 1 := by
  intro k hk
  have : k = 0 ∨ k = 1 ∨ k = 2 ∨ k = 3 ∨ k = 4 ∨ k = 5 := by omega
  rcases this with rfl | rfl | rfl | rfl | rfl | rfl
  · exact hG.2.2.2.1 (70, 0, 1010) (by decide +kernel)
  · exact hG.2.2.2.1 (70, 1, 1011) (by decide +kernel)
  · exact hG.2.2.2.1 (70, 2, 1012) (by decide +kernel)
  · exact hG.2.2.2.1 (70, 3, 1013) (by decide +kernel)
  · exact hG.2.2.2.1 (70, 4, 1014) (by decide +kernel)
  · exact hG.2.2.2.1 (70, 5, 1015) (by decide +kernel)
theorem gr_69 (hG : Geo G SL p q) : ∀ k, k < 4 → gR G 69 k = 1000 + (2 + k) + 1 := by
  intro k hk
  have : k = 0 ∨ k = 1 ∨ k = 2 ∨ k = 3 := by omega
  rcases this with rfl | rfl | rfl | rfl
  · exact hG.2.2.2.1 (69, 0, 1002) (by decide +kernel)
  · exact hG.2.2.2.1 (69, 1, 1003) (by decide +kernel)
  · exact hG.2.2.2.1 (69, 2, 1004) (by decide +kernel)
  · exact hG.2.2.2.1 (69, 3, 1005) (by decide +kernel)
/-- the first of the values -/
theorem m_190v (hG : Geo G SL p q) (hC : MR F0 A0 tp N F A s c) (hQ : Q (.inl (some (.int (zI (fsB (fun k => wdB tp N (10 + k) s) 6 0))))) (F, A, J, G)) : X (d + 1) 190 0 [.ref 68, .ref 70, .null] [] (F, A, J, G) Q := by
  refine t_190v_0 hG ?_
  refine fs_ind (p := fun k => wdB tp N (10 + k) s) (h := 6) (P := fun z => Q (.inl (some (.int (zI z)))) (F, A, J, G)) (R := fun j => X (d + 1) 190 2 [.ref 68, .ref 70, .int (zI (j : Int))] [] (F, A, J, G) Q) hQ (fun h => ?_) (fun j hj h1 h0 => ?_)
  · exact t_190v_2 hG ⟨fun h => absurd h (by decide), fun _ => h⟩
  · refine t_190v_2 hG ?_
    rw [show (6 : Int32) = zI ((6 : Nat) : Int) from rfl, zN_lt (by omega) (by omega), zI_clamp (by omega), gr_70 hG j hj, Nat.add_sub_cancel]
    refine ⟨fun _ => ⟨zN_in hj (by decide), rfl, ⟨by omega, by have := sby_len; omega⟩, m_189 hG (by omega) hC (fun hw => k_190v_15 hG ⟨fun h => absurd h (by decide), fun _ => h1 hw⟩) (fun hw => k_190v_15 hG ⟨fun _ => ?_, fun h => absurd rfl h⟩)⟩, fun h => absurd hj h⟩
    rw [zN_1]; exact h0 hw
theorem m_190vb (hG : Geo G SL p q) (hE : ME F0 A0 F A e) (hQ : Q (.inl (some (.int (-1)))) (F, A, J, G)) : X (d + 1) 190 0 [.ref 68, .ref 70, .null] [] (F, A, J, G) Q := by
  refine t_190v_0 hG (up_ind (h := 6) (P := fun j => X (d + 1) 190 2 [.ref 68, .ref 70, .int (zI (j : Int))] [] (F, A, J, G) Q) ?_ (fun j hj ih => ?_))
  · exact t_190v_2 hG ⟨fun h => absurd h (by decide), fun _ => hQ⟩
  · refine t_190v_2 hG ?_
    rw [show (6 : Int32) = zI ((6 : Nat) : Int) from rfl, zN_lt (by omega) (by omega), zI_clamp (by omega), gr_70 hG j hj, Nat.add_sub_cancel]
    refine ⟨fun _ => ⟨zN_in hj (by decide), rfl, ⟨by omega, by have := sby_len; omega⟩, m_189b hG (by omega) hE (k_190v_15 hG ⟨fun _ => ?_, fun h => absurd rfl h⟩)⟩, fun h => absurd hj h⟩
    rw [zN_1]; exact ih
theorem m_190k (hG : Geo G SL p q) (hC : MR F0 A0 tp N F A s c) (hQ : Q (.inl (some (.int (zI (fsB (fun k => wdB tp N (2 + k) s) 4 0))))) (F, A, J, G)) : X (d + 1) 190 0 [.ref 68, .ref 69, .null] [] (F, A, J, G) Q := by
  refine t_190k_0 hG ?_
  refine fs_ind (p := fun k => wdB tp N (2 + k) s) (h := 4) (P := fun z => Q (.inl (some (.int (zI z)))) (F, A, J, G)) (R := fun j => X (d + 1) 190 2 [.ref 68, .ref 69, .int (zI (j : Int))] [] (F, A, J, G) Q) hQ (fun h => ?_) (fun j hj h1 h0 => ?_)
  · exact t_190k_2 hG ⟨fun h => absurd h (by decide), fun _ => h⟩
  · refine t_190k_2 hG ?_
    rw [show (4 : Int32) = zI ((4 : Nat) : Int) from rfl, zN_lt (by omega) (by omega), zI_clamp (by omega), gr_69 hG j hj, Nat.add_sub_cancel]
    refine ⟨fun _ => ⟨zN_in hj (by decide), rfl, ⟨by omega, by have := sby_len; omega⟩, m_189 hG (by omega) hC (fun hw => k_190k_15 hG ⟨fun h => absurd h (by decide), fun _ => h1 hw⟩) (fun hw => k_190k_15 hG ⟨fun _ => ?_, fun h => absurd rfl h⟩)⟩, fun h => absurd hj h⟩
    rw [zN_1]; exact h0 hw
theorem m_190kb (hG : Geo G SL p q) (hE : ME F0 A0 F A e) (hQ : Q (.inl (some (.int (-1)))) (F, A, J, G)) : X (d + 1) 190 0 [.ref 68, .ref 69, .null] [] (F, A, J, G) Q := by
  refine t_190k_0 hG (up_ind (h := 4) (P := fun j => X (d + 1) 190 2 [.ref 68, .ref 69, .int (zI (j : Int))] [] (F, A, J, G) Q) ?_ (fun j hj ih => ?_))
  · exact t_190k_2 hG ⟨fun h => absurd h (by decide), fun _ => hQ⟩
  · refine t_190k_2 hG ?_
    rw [show (4 : Int32) = zI ((4 : Nat) : Int) from rfl, zN_lt (by omega) (by omega), zI_clamp (by omega), gr_69 hG j hj, Nat.add_sub_cancel]
    refine ⟨fun _ => ⟨zN_in hj (by decide), rfl, ⟨by omega, by have := sby_len; omega⟩, m_189b hG (by omega) hE (k_190k_15 hG ⟨fun _ => ?_, fun h => absurd rfl h⟩)⟩, fun h => absurd hj h⟩
    rw [zN_1]; exact ih
theorem vl_fs : (vlS tp N s = none → fsB (fun k => wdB tp N (10 + k) s) 6 0 = -1) ∧ ∀ z, vlS tp N s = some z → fsB (fun k => wdB tp N (10 + k) s) 6 0 = -1 - z := by
  unfold vlS
  simp only [fsB]
  constructor
  · intro h
    repeat' split at h
    all_goals first | cases h | skip
    all_goals (rename_i h1 h2 h3 h4 h5 h6; rw [if_neg h1, if_neg h2, if_neg h3, if_neg h4, if_neg h5, if_neg h6])
  · intro z h
    split at h
    · rename_i h1; cases h; rw [if_pos h1]; rfl
    · rename_i h1
      rw [if_neg h1]
      split at h
      · rename_i h2; cases h; rw [if_pos h2]; rfl
      · rename_i h2
        rw [if_neg h2]
        split at h
        · rename_i h3; cases h; rw [if_pos h3]; rfl
        · rename_i h3
          rw [if_neg h3]
          split at h
          · rename_i h4; cases h; rw [if_pos h4]; rfl
          · rename_i h4
            rw [if_neg h4]
            split at h
            · rename_i h5; cases h; rw [if_pos h5]; rfl
            · rename_i h5
              rw [if_neg h5]
              split at h
              · rename_i h6; cases h; rw [if_pos h6]; rfl
              · cases h
theorem kn_fs : (knS tp N s = none → fsB (fun k => wdB tp N (2 + k) s) 4 0 = -1) ∧ ∀ z, knS tp N s = some z → fsB (fun k => wdB tp N (2 + k) s) 4 0 = (z : Int) := by
  unfold knS
  simp only [fsB]
  constructor
  · intro h
    repeat' split at h
    all_goals first | cases h | skip
    all_goals (rename_i h1 h2 h3 h4; rw [if_neg h1, if_neg h2, if_neg h3, if_neg h4])
  · intro z h
    split at h
    · rename_i h1; cases h; rw [if_pos h1]
    · rename_i h1
      rw [if_neg h1]
      split at h
      · rename_i h2; cases h; rw [if_pos h2]
      · rename_i h2
        rw [if_neg h2]
        split at h
        · rename_i h3; cases h; rw [if_pos h3]
        · rename_i h3
          rw [if_neg h3]
          split at h
          · rename_i h4; cases h; rw [if_pos h4]
          · cases h
/-- a sign must stand there -/
theorem m_192 (hG : Geo G SL p q) (hC : MR F0 A0 tp N F A s c) (h1 : sgB tp N x1 s = true → ∀ F', MR F0 A0 tp N F' A (nxS tp N s) c → Q (.inl none) (F', A, J, G)) (h0 : sgB tp N x1 s = false → ∀ F', ME F0 A0 F' A (1, s) → Q (.inl none) (F', A, J, G)) : X (d + 2) 192 0 [.ref 68, .int x1] [] (F, A, J, G) Q := by
  have f20 := hC.2.2.2.1
  refine t_192_0 hG ⟨fun _ => ⟨mk_in hC, fun hm => ⟨fun _ => ?_, fun h => absurd f20 h⟩, fun hm => ⟨fun _ => ?_, fun h => absurd f20 h⟩⟩, fun h => absurd f20 h⟩
  · rw [mk_eq hC] at hm
    exact MR_n hG hC (fun F' hC' => k_192_31 hG (h1 hm F' hC'))
  · rw [mk_eq hC] at hm
    exact h0 hm _ (MR_e hC rfl (by decide) (by decide))
theorem m_192b (hG : Geo G SL p q) (hE : ME F0 A0 F A e) (hQ : Q (.inl none) (F, A, J, G)) : X (d + 2) 192 0 [.ref 68, .int x1] [] (F, A, J, G) Q :=
  t_192_0 hG ⟨fun h => absurd h (ME_b hE), fun _ => ⟨fun h => absurd h (ME_b hE), fun _ => hQ⟩⟩
theorem mr_sub (hC : MR F0 A0 tp N F A s c) (hs : s < N) : (F 68 19) - (F 68 18) = zI ((enS tp N s - s : Nat) : Int) := by
  have := en_gt (tp := tp) hs
  rw [hC.2.2.2.2.2.2.1, hC.2.2.2.2.1, zI_sub]
  congr 1; omega
/-- a number must stand there -/
theorem m_193 (hG : Geo G SL p q) {lo hi : Int} (hlo : 0 ≤ lo ∧ lo ≤ 9999) (hhi : 0 ≤ hi ∧ hi ≤ 9999) {x2 : Int32} (hx1 : x1 = zI lo) (hx2 : x2 = zI hi) (hC : MR F0 A0 tp N F A s c) (h1 : ∀ s' v, numS tp N lo hi s = .inr (s', v) → ∀ F', MR F0 A0 tp N F' A s' c → Q (.inl (some (.int (zI v)))) (F', A, J, G)) (h0 : ∀ e, numS tp N lo hi s = .inl e → ∀ F', ME F0 A0 F' A e → Q (.inl (some (.int 0))) (F', A, J, G)) : X (d + 2) 193 0 [.ref 68, .int x1, .int x2, .null] [] (F, A, J, G) Q := by
  have f20 := hC.2.2.2.1
  have e2 := tk_2 hC
  have n6 := hC.2.1.1
  have e1 := MR_e hC (k := 1) (x := 1) rfl (by decide) (by decide)
  have e22 := MR_e hC (k := 2) (x := 2) rfl (by decide) (by decide)
  refine t_193_0 hG ?_
  rw [e2]
  unfold numS at h1 h0
  refine ⟨fun _ => ⟨fun h3 => ?_, fun h3 => ⟨fun _ => h0 _ (if_neg h3) _ e1, fun h => absurd f20 h⟩⟩, fun h => absurd f20 h⟩
  have hs := kd_lt h3 (by decide)
  have hen := en_le (tp := tp) (Nat.le_of_lt hs)
  rw [if_pos h3] at h1 h0
  rw [mr_sub hC hs, show (4 : Int32) = zI ((4 : Nat) : Int) from rfl, zN_lt (by omega) (by omega)]
  refine ⟨fun h4 => ⟨fun _ => h0 _ (if_pos (Or.inl h4)) _ e22, fun h => absurd f20 h⟩, fun h4 => ?_⟩
  have hb := nvS_b h3 (by omega)
  have f17 := hC.2.2.2.2.2.2.2.2.1 h3 (by omega)
  rw [f17, hx1, hx2, zI_lt (by omega) (by omega) (by omega) (by omega), zI_lt (by omega) (by omega) (by omega) (by omega)]
  refine ⟨fun h5 => ⟨fun _ => h0 _ (if_pos (Or.inr (Or.inl h5))) _ e22, fun h => absurd f20 h⟩, fun h5 => ⟨fun h6 => ⟨fun _ => h0 _ (if_pos (Or.inr (Or.inr h6))) _ e22, fun h => absurd f20 h⟩, fun h6 => ⟨fun _ => ⟨fun _ => ?_, fun h => absurd f20 h⟩, fun h => absurd f20 h⟩⟩⟩
  refine MR_n hG hC (fun F' hC' => k_193_86 hG (h1 _ _ (if_neg (fun h => ?_)) F' hC'))
  omega
theorem m_193b (hG : Geo G SL p q) {x2 : Int32} (hE : ME F0 A0 F A e) (hQ : Q (.inl (some (.int 0))) (F, A, J, G)) : X (d + 2) 193 0 [.ref 68, .int x1, .int x2, .null] [] (F, A, J, G) Q :=
  t_193_0 hG ⟨fun h => absurd h (ME_b hE), fun _ => hQ⟩
/-- a method of the reader does as the parser P, and nothing behind a fault -/
def MC (F0 A0 : Nat → Nat → Int32) (tp : Nat → Int32) (N : Nat) (J : Nat → Nat → Int64) (G : pG) (d mid : Nat) (L : List Value) (P : Nat → List Int → RdR) : Prop := (∀ F A s c Q, MR F0 A0 tp N F A s c → (∀ F' A' s' c', P s c = .inr (s', c') → MR F0 A0 tp N F' A' s' c' → Q (.inl none) (F', A', J, G)) → (∀ F' A' e, P s c = .inl e → ME F0 A0 F' A' e → Q (.inl none) (F', A', J, G)) → X d mid 0 L [] (F, A, J, G) Q) ∧ (∀ F A e Q, ME F0 A0 F A e → (∀ F' A', ME F0 A0 F' A' e → Q (.inl none) (F', A', J, G)) → X d mid 0 L [] (F, A, J, G) Q)
theorem mr_room (hP : PrOk N k P) (hC : MR F0 A0 tp N F A s c) (hs : s < N) {s' : Nat} {c' : List Int} (h : P (nxS tp N s) c = .inr (s', c')) : c'.length < s' := by
  obtain ⟨a1, a2, v, a3, a4, a5⟩ := hP _ _ _ _ h (nx_le (Nat.le_of_lt hs))
  have := nx_gt (tp := tp) hs
  have h2 := hC.2.1.2.2.2.2
  rw [a3, List.length_append]
  omega
theorem md_num {x : Int} (h : -6 ≤ x) : mdl x = x := if_pos h
theorem mc_195 (hG : Geo G SL p q) (h200 : MC F0 A0 tp N J G (d + 2) 200 [.ref 68, .int (x1 + 1), .null] E) : MC F0 A0 tp N J G (d + 3) 195 [.ref 68, .int x1, .null] (ptS tp N E) := by
  refine ⟨fun F A s c Q hC h1 h0 => ?_, fun F A e Q hE hQ => t_195_0 hG ⟨fun h => absurd h (ME_b hE), fun _ => hQ F A hE⟩⟩
  have f20 := hC.2.2.2.1
  have e2 := tk_2 hC
  have e1 := tk_1 hC
  have hcl := hC.2.1.2.2.2.2
  refine t_195_0 hG ⟨fun _ => ?_, fun h => absurd f20 h⟩
  rw [e2, e1]
  refine ⟨fun h3 => ?_, fun h3 => ⟨fun h2 => ?_, fun h2 => ?_⟩⟩
  · have hgt := nx_gt (tp := tp) (kd_lt h3 (by decide))
    refine m_193 hG (lo := 0) (hi := 9999) (by decide) (by decide) rfl rfl hC (fun s' v hv F1 hC1 => ?_) (fun e he F1 hE => k_195_25 hG (lay_bad hE (h0 F1 A e ?_ hE)))
    · unfold numS at hv
      rw [if_pos h3] at hv
      split at hv
      · cases hv
      · rename_i hn
        cases hv
        have hb := nvS_b h3 (by omega)
        refine k_195_25 hG (lay_if hC1 (by omega) (h1 _ _ _ _ ?_ (MR_a hC1 (z := nvS tp N s) (by rw [md_num (by omega)]) (by omega))))
        rw [ptS, if_pos h3, if_neg (by omega)]
    · unfold numS at he
      rw [if_pos h3] at he
      rw [ptS, if_pos h3]
      split at he
      · rename_i hn
        cases he
        by_cases h4 : 4 < enS tp N s - s
        · rw [if_pos h4]
        · have hb := nvS_b h3 (by omega)
          omega
      · cases he
  · have hgt := nx_gt (tp := tp) (kd_lt h2 (by decide))
    refine m_190v hG hC (k_195_45 hG ?_)
    cases hv : vlS tp N s with
    | none =>
      rw [vl_fs.1 hv]
      refine ⟨fun _ => ⟨fun _ => h0 _ _ (3, s) ?_ (MR_e hC rfl (by decide) (by decide)), fun h => absurd f20 h⟩, fun h => absurd rfl h⟩
      rw [ptS, if_neg h3, if_pos h2, hv]
    | some z =>
      have hb := vl_b hv
      rw [vl_fs.2 z hv]
      have hne : ¬ zI (-1 - z) = -1 := by
        rw [show (-1 : Int32) = zI (-1) from rfl, zI_eq (by omega) (by omega) (by omega) (by omega)]; omega
      have hx : (-1 : Int32) - zI (-1 - z) = zI (mdl z) := by
        rw [show (-1 : Int32) = zI (-1) from rfl, zI_sub, md_num (by omega)]; congr 1; omega
      refine ⟨fun h => absurd h hne, fun _ => ?_⟩
      have hp : ptS tp N E s c = .inr (nxS tp N s, c ++ [z]) := by rw [ptS, if_neg h3, if_pos h2, hv]
      obtain ⟨⟨r1, r2, r3, r4, r5⟩, ⟨n6, hB, hA, hs, hc⟩, f15, _, f18, f14, f19, f16, f17, a7, hcd⟩ := hC
      have hlt : c.length < 600 := by have := kd_lt h2 (by decide); omega
      rw [hx, a7, zN_1, show (600 : Int32) = zI ((600 : Nat) : Int) from rfl, zN_add, zI_clamp (by omega)]
      refine ⟨fun _ => ⟨zN_in (by omega) (by decide), fun _ => ?_, fun h => absurd f20 h⟩, fun h => absurd f20 h⟩
      refine m_187 hG n6 hB (fun j hj => by rw [wF_row (by decide), wF_row (by decide)]; exact hA j hj) (en_le hs) f15 f14 (fun F1 g1 g2 g18 g14 g19 g16 g17 => k_195_74 hG (h1 F1 _ _ _ hp ?_))
      refine ⟨⟨fun i i8 => ?_, fun j j14 j16 j17 j18 j19 j20 j21 => ?_, fun i i72 i78 => ?_, fun j j7 => ?_, fun j j6 => ?_⟩, ⟨n6, hB, fun j hj => ?_, nx_le hs, ?_⟩, ?_, ?_, g18, g14, g19, g16, g17, ?_, fun i hi => ?_⟩
      · rw [g1 i i8]; exact r1 i i8
      · rw [g2 j j14 j16 j17 j18 j19]; exact r2 j j14 j16 j17 j18 j19 j20 j21
      · rw [wF_row i72, wF_row i78]; exact r3 i i72 i78
      · rw [wF_cell j7, wF_row (by decide)]; exact r4 j j7
      · rw [wF_row (by decide), wF_cell (by omega)]; exact r5 j j6
      · rw [wF_row (by decide), wF_row (by decide)]; exact hA j hj
      · simp only [List.length_append, List.length_cons, List.length_nil]; omega
      · rw [g2 15 (by decide) (by decide) (by decide) (by decide) (by decide)]; exact f15
      · rw [g2 20 (by decide) (by decide) (by decide) (by decide) (by decide)]; exact f20
      · rw [wF_same]; simp only [List.length_append, List.length_cons, List.length_nil]
      · rw [wF_row (by decide), wF_at]
        simp only [List.length_append, List.length_cons, List.length_nil] at hi
        by_cases e : i = c.length
        · rw [if_pos ⟨rfl, by omega⟩, e]; simp
        · rw [if_neg (fun h => e (by omega)), hcd i (by omega)]
          simp only [List.getD_eq_getElem?_getD]
          rw [List.getElem?_append_left (by omega)]
  · refine m_192 hG hC (fun hg F1 hC1 => k_195_81 hG ?_) (fun hg F1 hE => k_195_81 hG (h200.2 F1 A (1, s) _ hE (fun F2 A2 hE2 => k_195_88 hG (m_192b hG hE2 (k_195_94 hG (h0 F2 A2 (1, s) ?_ hE2))))))
    · have hun : ptS tp N E s c = match E (nxS tp N s) c with | .inl e => .inl e | .inr q => if sgB tp N 41 q.1 = true then .inr (nxS tp N q.1, q.2) else .inl (1, q.1) := by
        rw [ptS, if_neg h3, if_neg h2, if_pos hg]; rfl
      refine h200.1 F1 A _ c _ hC1 (fun F2 A2 s2 c2 hp hC2 => k_195_88 hG (m_192 hG hC2 (fun hg2 F3 hC3 => k_195_94 hG (h1 F3 A2 _ c2 ?_ hC3)) (fun hg2 F3 hE => k_195_94 hG (h0 F3 A2 (1, s2) ?_ hE)))) (fun F2 A2 e hp hE => k_195_88 hG (m_192b hG hE (k_195_94 hG (h0 F2 A2 e (by rw [hun, hp]) hE))))
      · rw [hun, hp]; exact if_pos hg2
      · rw [hun, hp]; exact if_neg (by rw [hg2]; decide)
    · rw [ptS, if_neg h3, if_neg h2, if_neg (by rw [hg]; decide)]
theorem mc_196 (hG : Geo G SL p q) (hP : PrOk N k P) (h195 : MC F0 A0 tp N J G (d + 1) 195 [.ref 68, .int x1, .null] P) : MC F0 A0 tp N J G (d + 2) 196 [.ref 68, .int x1, .null] (bnS (opS2 tp N 42 47 (-10) (-11)) (nxS tp N) P) := by
  refine ⟨fun F A s c Q hC h1 h0 => ?_, fun F A e Q hE hQ => t_196_0 hG (h195.2 F A e _ hE (fun F1 A1 hE1 => k_196_5 hG (mk2_bad hE1 (hQ F1 A1 hE1))))⟩
  have B : ∀ f, (∀ F A s c x2, N ≤ s + f → MR F0 A0 tp N F A s c → (∀ F' A' s' c', lpS (opS2 tp N 42 47 (-10) (-11)) (nxS tp N) P f s c = .inr (s', c') → MR F0 A0 tp N F' A' s' c' → Q (.inl none) (F', A', J, G)) → (∀ F' A' e, lpS (opS2 tp N 42 47 (-10) (-11)) (nxS tp N) P f s c = .inl e → ME F0 A0 F' A' e → Q (.inl none) (F', A', J, G)) → X (d + 2) 196 5 [.ref 68, .int x1, .int x2] [] (F, A, J, G) Q) → ∀ F A s c, N ≤ s + (f + 1) → MR F0 A0 tp N F A s c → (∀ F' A' s' c', lpS (opS2 tp N 42 47 (-10) (-11)) (nxS tp N) P (f + 1) s c = .inr (s', c') → MR F0 A0 tp N F' A' s' c' → Q (.inl none) (F', A', J, G)) → (∀ F' A' e, lpS (opS2 tp N 42 47 (-10) (-11)) (nxS tp N) P (f + 1) s c = .inl e → ME F0 A0 F' A' e → Q (.inl none) (F', A', J, G)) → ∀ (z : Int) (x : Int32), x = zI (mdl z) → opS2 tp N 42 47 (-10) (-11) s = some z → X (d + 1) 187 0 [.ref 68, .null] [] (F, A, J, G) (KK (d + 2) 196 44 [.ref 68, .int x1, .int x] [] Q) := by
    intro f ih F A s c hf hC h1 h0 z x hx ho
    have hs : s < N := (op2_ok (by decide) (by decide) s z ho).1
    have hun : lpS (opS2 tp N 42 47 (-10) (-11)) (nxS tp N) P (f + 1) s c = match P (nxS tp N s) c with | .inl e => .inl e | .inr q => lpS (opS2 tp N 42 47 (-10) (-11)) (nxS tp N) P f q.1 (q.2 ++ [z]) := by rw [lpS, ho]; rfl
    refine MR_n hG hC (fun F1 hC1 => k_196_44 hG (h195.1 F1 A _ c _ hC1 (fun F2 A2 s2 c2 hp hC2 => k_196_49 hG ?_) (fun F2 A2 e hp hE => k_196_49 hG (lay_bad hE (t_196_5 hG (mk2_bad hE (h0 F2 A2 e (by rw [hun, hp]) hE)))))))
    have hroom := mr_room hP hC hs hp
    have hgo := hP _ _ _ _ hp (nx_le (Nat.le_of_lt hs))
    have hgt := nx_gt (tp := tp) hs
    refine lay_if hC2 hroom (ih _ _ s2 (c2 ++ [z]) _ (by omega) (MR_a hC2 hx hroom) (fun F' A' s' c' hq hC' => h1 F' A' s' c' (by rw [hun, hp]; exact hq) hC') (fun F' A' e hq hE => h0 F' A' e (by rw [hun, hp]; exact hq) hE))
  have o1 : ∀ {s}, sgB tp N 42 s = true → opS2 tp N 42 47 (-10) (-11) s = some (-10) := fun ha => if_pos ha
  have o2 : ∀ {s}, sgB tp N 42 s = false → sgB tp N 47 s = true → opS2 tp N 42 47 (-10) (-11) s = some (-11) := fun ha hb => by unfold opS2; rw [if_neg (by rw [ha]; decide)]; exact if_pos hb
  have o3 : ∀ {s}, sgB tp N 42 s = false → sgB tp N 47 s = false → opS2 tp N 42 47 (-10) (-11) s = none := fun ha hb => by unfold opS2; rw [if_neg (by rw [ha]; decide), if_neg (by rw [hb]; decide)]
  have L : ∀ f F A s c x2, N ≤ s + f → MR F0 A0 tp N F A s c → (∀ F' A' s' c', lpS (opS2 tp N 42 47 (-10) (-11)) (nxS tp N) P f s c = .inr (s', c') → MR F0 A0 tp N F' A' s' c' → Q (.inl none) (F', A', J, G)) → (∀ F' A' e, lpS (opS2 tp N 42 47 (-10) (-11)) (nxS tp N) P f s c = .inl e → ME F0 A0 F' A' e → Q (.inl none) (F', A', J, G)) → X (d + 2) 196 5 [.ref 68, .int x1, .int x2] [] (F, A, J, G) Q := by
    intro f
    induction f with
    | zero =>
      intro F A s c x2 hf hC h1 h0
      exact t_196_5 hG (mk2_if hC (fun ha => absurd (sg_lt ha) (by omega)) (fun _ hb => absurd (sg_lt hb) (by omega)) (fun _ _ => h1 F A s c rfl hC))
    | succ f ih =>
      intro F A s c x2 hf hC h1 h0
      exact t_196_5 hG (mk2_if hC (fun ha => B f ih F A s c hf hC h1 h0 (-10) _ rfl (o1 ha)) (fun ha hb => B f ih F A s c hf hC h1 h0 (-11) _ rfl (o2 ha hb)) (fun ha hb => h1 F A s c (by rw [lpS, o3 ha hb]) hC))
  refine t_196_0 hG (h195.1 F A s c _ hC (fun F1 A1 s1 c1 hp hC1 => ?_) (fun F1 A1 e hp hE => k_196_5 hG (mk2_bad hE (h0 F1 A1 e (by unfold bnS; rw [hp]) hE))))
  have n6 := hC.2.1.1
  have g1 : ∀ F' A' s' c', lpS (opS2 tp N 42 47 (-10) (-11)) (nxS tp N) P (599 + 1) s1 c1 = .inr (s', c') → MR F0 A0 tp N F' A' s' c' → Q (.inl none) (F', A', J, G) := fun F' A' s' c' hq hC' => h1 F' A' s' c' (by unfold bnS; rw [hp]; exact hq) hC'
  have g0 : ∀ F' A' e, lpS (opS2 tp N 42 47 (-10) (-11)) (nxS tp N) P (599 + 1) s1 c1 = .inl e → ME F0 A0 F' A' e → Q (.inl none) (F', A', J, G) := fun F' A' e hq hE => h0 F' A' e (by unfold bnS; rw [hp]; exact hq) hE
  exact k_196_5 hG (mk2_if hC1 (fun ha => B 599 (L 599) F1 A1 s1 c1 (by omega) hC1 g1 g0 (-10) _ rfl (o1 ha)) (fun ha hb => B 599 (L 599) F1 A1 s1 c1 (by omega) hC1 g1 g0 (-11) _ rfl (o2 ha hb)) (fun ha hb => g1 F1 A1 s1 c1 (by rw [lpS, o3 ha hb]) hC1))
theorem mc_197 (hG : Geo G SL p q) (hP : PrOk N k P) (h196 : MC F0 A0 tp N J G (d + 1) 196 [.ref 68, .int x1, .null] P) : MC F0 A0 tp N J G (d + 2) 197 [.ref 68, .int x1, .null] (bnS (opS2 tp N 43 45 (-8) (-9)) (nxS tp N) P) := by
  refine ⟨fun F A s c Q hC h1 h0 => ?_, fun F A e Q hE hQ => t_197_0 hG (h196.2 F A e _ hE (fun F1 A1 hE1 => k_197_5 hG (mk2_bad hE1 (hQ F1 A1 hE1))))⟩
  have B : ∀ f, (∀ F A s c x2, N ≤ s + f → MR F0 A0 tp N F A s c → (∀ F' A' s' c', lpS (opS2 tp N 43 45 (-8) (-9)) (nxS tp N) P f s c = .inr (s', c') → MR F0 A0 tp N F' A' s' c' → Q (.inl none) (F', A', J, G)) → (∀ F' A' e, lpS (opS2 tp N 43 45 (-8) (-9)) (nxS tp N) P f s c = .inl e → ME F0 A0 F' A' e → Q (.inl none) (F', A', J, G)) → X (d + 2) 197 5 [.ref 68, .int x1, .int x2] [] (F, A, J, G) Q) → ∀ F A s c, N ≤ s + (f + 1) → MR F0 A0 tp N F A s c → (∀ F' A' s' c', lpS (opS2 tp N 43 45 (-8) (-9)) (nxS tp N) P (f + 1) s c = .inr (s', c') → MR F0 A0 tp N F' A' s' c' → Q (.inl none) (F', A', J, G)) → (∀ F' A' e, lpS (opS2 tp N 43 45 (-8) (-9)) (nxS tp N) P (f + 1) s c = .inl e → ME F0 A0 F' A' e → Q (.inl none) (F', A', J, G)) → ∀ (z : Int) (x : Int32), x = zI (mdl z) → opS2 tp N 43 45 (-8) (-9) s = some z → X (d + 1) 187 0 [.ref 68, .null] [] (F, A, J, G) (KK (d + 2) 197 44 [.ref 68, .int x1, .int x] [] Q) := by
    intro f ih F A s c hf hC h1 h0 z x hx ho
    have hs : s < N := (op2_ok (by decide) (by decide) s z ho).1
    have hun : lpS (opS2 tp N 43 45 (-8) (-9)) (nxS tp N) P (f + 1) s c = match P (nxS tp N s) c with | .inl e => .inl e | .inr q => lpS (opS2 tp N 43 45 (-8) (-9)) (nxS tp N) P f q.1 (q.2 ++ [z]) := by rw [lpS, ho]; rfl
    refine MR_n hG hC (fun F1 hC1 => k_197_44 hG (h196.1 F1 A _ c _ hC1 (fun F2 A2 s2 c2 hp hC2 => k_197_49 hG ?_) (fun F2 A2 e hp hE => k_197_49 hG (lay_bad hE (t_197_5 hG (mk2_bad hE (h0 F2 A2 e (by rw [hun, hp]) hE)))))))
    have hroom := mr_room hP hC hs hp
    have hgo := hP _ _ _ _ hp (nx_le (Nat.le_of_lt hs))
    have hgt := nx_gt (tp := tp) hs
    refine lay_if hC2 hroom (ih _ _ s2 (c2 ++ [z]) _ (by omega) (MR_a hC2 hx hroom) (fun F' A' s' c' hq hC' => h1 F' A' s' c' (by rw [hun, hp]; exact hq) hC') (fun F' A' e hq hE => h0 F' A' e (by rw [hun, hp]; exact hq) hE))
  have o1 : ∀ {s}, sgB tp N 43 s = true → opS2 tp N 43 45 (-8) (-9) s = some (-8) := fun ha => if_pos ha
  have o2 : ∀ {s}, sgB tp N 43 s = false → sgB tp N 45 s = true → opS2 tp N 43 45 (-8) (-9) s = some (-9) := fun ha hb => by unfold opS2; rw [if_neg (by rw [ha]; decide)]; exact if_pos hb
  have o3 : ∀ {s}, sgB tp N 43 s = false → sgB tp N 45 s = false → opS2 tp N 43 45 (-8) (-9) s = none := fun ha hb => by unfold opS2; rw [if_neg (by rw [ha]; decide), if_neg (by rw [hb]; decide)]
  have L : ∀ f F A s c x2, N ≤ s + f → MR F0 A0 tp N F A s c → (∀ F' A' s' c', lpS (opS2 tp N 43 45 (-8) (-9)) (nxS tp N) P f s c = .inr (s', c') → MR F0 A0 tp N F' A' s' c' → Q (.inl none) (F', A', J, G)) → (∀ F' A' e, lpS (opS2 tp N 43 45 (-8) (-9)) (nxS tp N) P f s c = .inl e → ME F0 A0 F' A' e → Q (.inl none) (F', A', J, G)) → X (d + 2) 197 5 [.ref 68, .int x1, .int x2] [] (F, A, J, G) Q := by
    intro f
    induction f with
    | zero =>
      intro F A s c x2 hf hC h1 h0
      exact t_197_5 hG (mk2_if hC (fun ha => absurd (sg_lt ha) (by omega)) (fun _ hb => absurd (sg_lt hb) (by omega)) (fun _ _ => h1 F A s c rfl hC))
    | succ f ih =>
      intro F A s c x2 hf hC h1 h0
      exact t_197_5 hG (mk2_if hC (fun ha => B f ih F A s c hf hC h1 h0 (-8) _ rfl (o1 ha)) (fun ha hb => B f ih F A s c hf hC h1 h0 (-9) _ rfl (o2 ha hb)) (fun ha hb => h1 F A s c (by rw [lpS, o3 ha hb]) hC))
  refine t_197_0 hG (h196.1 F A s c _ hC (fun F1 A1 s1 c1 hp hC1 => ?_) (fun F1 A1 e hp hE => k_197_5 hG (mk2_bad hE (h0 F1 A1 e (by unfold bnS; rw [hp]) hE))))
  have n6 := hC.2.1.1
  have g1 : ∀ F' A' s' c', lpS (opS2 tp N 43 45 (-8) (-9)) (nxS tp N) P (599 + 1) s1 c1 = .inr (s', c') → MR F0 A0 tp N F' A' s' c' → Q (.inl none) (F', A', J, G) := fun F' A' s' c' hq hC' => h1 F' A' s' c' (by unfold bnS; rw [hp]; exact hq) hC'
  have g0 : ∀ F' A' e, lpS (opS2 tp N 43 45 (-8) (-9)) (nxS tp N) P (599 + 1) s1 c1 = .inl e → ME F0 A0 F' A' e → Q (.inl none) (F', A', J, G) := fun F' A' e hq hE => h0 F' A' e (by unfold bnS; rw [hp]; exact hq) hE
  exact k_197_5 hG (mk2_if hC1 (fun ha => B 599 (L 599) F1 A1 s1 c1 (by omega) hC1 g1 g0 (-8) _ rfl (o1 ha)) (fun ha hb => B 599 (L 599) F1 A1 s1 c1 (by omega) hC1 g1 g0 (-9) _ rfl (o2 ha hb)) (fun ha hb => g1 F1 A1 s1 c1 (by rw [lpS, o3 ha hb]) hC1))
theorem mc_198 (hG : Geo G SL p q) (hk : 1 ≤ k) (hP : PrOk N k P) (h197 : MC F0 A0 tp N J G (d + 1) 197 [.ref 68, .int x1, .null] P) : MC F0 A0 tp N J G (d + 2) 198 [.ref 68, .int x1, .null, .null] (ntS tp N (onS (opS2 tp N 60 61 (-12) (-13)) (nxS tp N) P) 6 0) := by
  have bad95 : ∀ F A e (m : Nat) Q, m ≤ 7 → ME F0 A0 F A e → (∀ F' A', ME F0 A0 F' A' e → Q (.inl none) (F', A', J, G)) → X (d + 2) 198 95 [.ref 68, .int x1, .int (zI (m : Int)), .int 0] [] (F, A, J, G) Q := by
    intro F A e m Q hm hE hQ
    refine up_ind (h := m) (P := fun j => X (d + 2) 198 95 [.ref 68, .int x1, .int (zI (m : Int)), .int (zI (j : Int))] [] (F, A, J, G) Q) ?_ (fun j hj ih => ?_)
    · refine t_198_95 hG ?_
      rw [zN_lt (by omega) (by omega)]
      exact ⟨fun h => absurd h (Nat.lt_irrefl _), fun _ => hQ F A hE⟩
    · refine t_198_95 hG ?_
      rw [zN_lt (by omega) (by omega), zN_1]
      exact ⟨fun _ => ⟨fun h => absurd h (ME_b hE), fun _ => ih⟩, fun h => absurd hj h⟩
  have bad2 : ∀ F A e (m : Nat) Q, m ≤ 7 → ME F0 A0 F A e → (∀ F' A', ME F0 A0 F' A' e → Q (.inl none) (F', A', J, G)) → X (d + 2) 198 2 [.ref 68, .int x1, .int (zI (m : Int)), .null] [] (F, A, J, G) Q := by
    intro F A e m Q hm hE hQ
    exact t_198_2 hG (m_189b hG (i := 9) (by decide) hE (k_198_8 hG ⟨fun _ => h197.2 F A e _ hE (fun F1 A1 hE1 => k_198_44 hG (mk2_bad hE1 (bad95 F1 A1 e m Q hm hE1 hQ))), fun h => absurd rfl h⟩))
  refine ⟨fun F A s c Q hC h1 h0 => ?_, fun F A e Q hE hQ => t_198_0 hG (bad2 F A e 0 Q (by decide) hE hQ)⟩
  have lays : ∀ (m : Nat) F A s c, m ≤ 6 → c.length + m ≤ s → MR F0 A0 tp N F A s c → (∀ F' A', MR F0 A0 tp N F' A' s (c ++ List.replicate m (-7)) → Q (.inl none) (F', A', J, G)) → X (d + 2) 198 95 [.ref 68, .int x1, .int (zI (m : Int)), .int 0] [] (F, A, J, G) Q := by
    intro m F A s c hm hcm hC hQ
    refine up_ind (h := m) (P := fun j => ∀ F2 A2, MR F0 A0 tp N F2 A2 s (c ++ List.replicate j (-7)) → X (d + 2) 198 95 [.ref 68, .int x1, .int (zI (m : Int)), .int (zI (j : Int))] [] (F2, A2, J, G) Q) ?_ ?_ F A (by simpa using hC)
    · intro F2 A2 hC2
      refine t_198_95 hG ?_
      rw [zN_lt (by omega) (by omega)]
      exact ⟨fun e => absurd e (Nat.lt_irrefl _), fun _ => hQ F2 A2 hC2⟩
    · intro j hj ih F2 A2 hC2
      have hr : (c ++ List.replicate j (-7)).length < s := by simp only [List.length_append, List.length_replicate]; omega
      refine t_198_95 hG ?_
      rw [zN_lt (by omega) (by omega), zN_1]
      refine ⟨fun _ => lay_if hC2 hr (ih _ _ ?_), fun e => absurd hj e⟩
      have := MR_a hC2 (x := (-28 : Int32)) (z := -7) rfl hr
      rw [List.append_assoc, show List.replicate j (-7) ++ [(-7 : Int)] = List.replicate (j + 1) (-7) from List.replicate_succ'.symm] at this
      exact this
  have o1 : ∀ {s}, sgB tp N 60 s = true → opS2 tp N 60 61 (-12) (-13) s = some (-12) := fun ha => if_pos ha
  have o2 : ∀ {s}, sgB tp N 60 s = false → sgB tp N 61 s = true → opS2 tp N 60 61 (-12) (-13) s = some (-13) := fun ha hb => by unfold opS2; rw [if_neg (by rw [ha]; decide)]; exact if_pos hb
  have o3 : ∀ {s}, sgB tp N 60 s = false → sgB tp N 61 s = false → opS2 tp N 60 61 (-12) (-13) s = none := fun ha hb => by unfold opS2; rw [if_neg (by rw [ha]; decide), if_neg (by rw [hb]; decide)]
  have fin : ∀ (m : Nat) F A s c, m ≤ 6 → c.length + m ≤ s → MR F0 A0 tp N F A s c → (∀ F' A' s' c', (match onS (opS2 tp N 60 61 (-12) (-13)) (nxS tp N) P s c with | .inl e => (.inl e : RdR) | .inr q => .inr (q.1, q.2 ++ List.replicate m (-7))) = .inr (s', c') → MR F0 A0 tp N F' A' s' c' → Q (.inl none) (F', A', J, G)) → (∀ F' A' e, (match onS (opS2 tp N 60 61 (-12) (-13)) (nxS tp N) P s c with | .inl e => (.inl e : RdR) | .inr q => .inr (q.1, q.2 ++ List.replicate m (-7))) = .inl e → ME F0 A0 F' A' e → Q (.inl none) (F', A', J, G)) → X (d + 1) 197 0 [.ref 68, .int x1, .null] [] (F, A, J, G) (KK (d + 2) 198 44 [.ref 68, .int x1, .int (zI (m : Int)), .null] [] Q) := by
    intro m F A s c hm hcm hC h1 h0
    refine h197.1 F A s c _ hC (fun F1 A1 s1 c1 hp hC1 => k_198_44 hG ?_) (fun F1 A1 e hp hE => k_198_44 hG (mk2_bad hE (bad95 F1 A1 e m Q (by omega) hE (fun F' A' hE' => h0 F' A' e (by unfold onS; rw [hp]) hE'))))
    obtain ⟨a1, a2, v, a3, a4, a5⟩ := hP _ _ _ _ hp hC.2.1.2.2.2.1
    have hlen : c1.length + m ≤ s1 := by rw [a3, List.length_append]; omega
    have body : ∀ (z : Int) (x : Int32), x = zI (mdl z) → opS2 tp N 60 61 (-12) (-13) s1 = some z → X (d + 1) 187 0 [.ref 68, .null] [] (F1, A1, J, G) (KK (d + 2) 198 83 [.ref 68, .int x1, .int (zI (m : Int)), .int x] [] Q) := by
      intro z x hx ho
      have hs : s1 < N := (op2_ok (by decide) (by decide) s1 z ho).1
      have hgt := nx_gt (tp := tp) hs
      have hun : onS (opS2 tp N 60 61 (-12) (-13)) (nxS tp N) P s c = match P (nxS tp N s1) c1 with | .inl e => .inl e | .inr r => .inr (r.1, r.2 ++ [z]) := by
        unfold onS; rw [hp]; dsimp only; rw [ho]; rfl
      rw [hun] at h1 h0
      refine MR_n hG hC1 (fun F2 hC2 => k_198_83 hG (h197.1 F2 A1 _ c1 _ hC2 (fun F3 A3 s3 c3 hp3 hC3 => k_198_88 hG ?_) (fun F3 A3 e hp3 hE => k_198_88 hG (lay_bad hE (bad95 F3 A3 e m Q (by omega) hE (fun F' A' hE' => h0 F' A' e (by rw [hp3]) hE'))))))
      obtain ⟨b1, b2, v2, b3, b4, b5⟩ := hP _ _ _ _ hp3 (nx_le (Nat.le_of_lt hs))
      have hl3 : c3.length + m < s3 := by rw [b3, List.length_append]; omega
      refine lay_if hC3 (by omega) (lays m _ _ s3 (c3 ++ [z]) hm (by simp only [List.length_append, List.length_cons, List.length_nil]; omega) (MR_a hC3 hx (by omega)) (fun F' A' hC' => h1 F' A' s3 _ (by rw [hp3]) hC'))
    exact mk2_if hC1 (fun ha => body (-12) _ rfl (o1 ha)) (fun ha hb => body (-13) _ rfl (o2 ha hb)) (fun ha hb => lays m F1 A1 s1 c1 hm hlen hC1 (fun F' A' hC' => h1 F' A' s1 _ (by unfold onS; rw [hp]; dsimp only; rw [o3 ha hb]) hC'))
  have L : ∀ (f m : Nat) F A s c, m + f = 6 → c.length + m ≤ s → MR F0 A0 tp N F A s c → (∀ F' A' s' c', ntS tp N (onS (opS2 tp N 60 61 (-12) (-13)) (nxS tp N) P) f m s c = .inr (s', c') → MR F0 A0 tp N F' A' s' c' → Q (.inl none) (F', A', J, G)) → (∀ F' A' e, ntS tp N (onS (opS2 tp N 60 61 (-12) (-13)) (nxS tp N) P) f m s c = .inl e → ME F0 A0 F' A' e → Q (.inl none) (F', A', J, G)) → X (d + 2) 198 2 [.ref 68, .int x1, .int (zI (m : Int)), .null] [] (F, A, J, G) Q := by
    intro f
    induction f with
    | zero =>
      intro m F A s c hf hcm hC h1 h0
      have f20 := hC.2.2.2.1
      refine t_198_2 hG (m_189 hG (i := 9) (by decide) hC (fun hw => k_198_8 hG ⟨fun e => absurd e ne10, fun _ => ?_⟩) (fun hw => k_198_8 hG ⟨fun _ => ?_, fun e => absurd rfl e⟩))
      · rw [zN_1, show (6 : Int32) = zI ((6 : Nat) : Int) from rfl, zN_eq (by omega) (by omega)]
        refine ⟨fun _ => ⟨fun _ => bad2 _ _ (2, s) (m + 1) Q (by omega) (MR_e hC rfl (by decide) (by decide)) (fun F' A' hE' => h0 F' A' (2, s) ?_ hE'), fun h => absurd f20 h⟩, fun h => by omega⟩
        rw [ntS, if_pos hw]
      · refine fin m F A s c (by omega) hcm hC (fun F' A' s' c' hq => h1 F' A' s' c' ?_) (fun F' A' e hq => h0 F' A' e ?_)
        · rw [ntS, if_neg (by rw [hw]; decide)]; exact hq
        · rw [ntS, if_neg (by rw [hw]; decide)]; exact hq
    | succ f ih =>
      intro m F A s c hf hcm hC h1 h0
      have f20 := hC.2.2.2.1
      refine t_198_2 hG (m_189 hG (i := 9) (by decide) hC (fun hw => k_198_8 hG ⟨fun e => absurd e ne10, fun _ => ?_⟩) (fun hw => k_198_8 hG ⟨fun _ => ?_, fun e => absurd rfl e⟩))
      · rw [zN_1, show (6 : Int32) = zI ((6 : Nat) : Int) from rfl, zN_eq (by omega) (by omega)]
        have g := nx_gt (tp := tp) (wd_lt hw)
        refine ⟨fun h => by omega, fun _ => ⟨fun _ => MR_n hG hC (fun F1 hC1 => k_198_36 hG (ih (m + 1) F1 A _ c (by omega) (by omega) hC1 (fun F' A' s' c' hq => h1 F' A' s' c' ?_) (fun F' A' e hq => h0 F' A' e ?_))), fun h => absurd f20 h⟩⟩
        · rw [ntS, if_pos hw]; exact hq
        · rw [ntS, if_pos hw]; exact hq
      · refine fin m F A s c (by omega) hcm hC (fun F' A' s' c' hq => h1 F' A' s' c' ?_) (fun F' A' e hq => h0 F' A' e ?_)
        · rw [ntS, if_neg (by rw [hw]; decide)]; exact hq
        · rw [ntS, if_neg (by rw [hw]; decide)]; exact hq
  exact t_198_0 hG (L 6 0 F A s c rfl hC.2.1.2.2.2.2 hC h1 h0)
theorem mc_199 (hG : Geo G SL p q) (hP : PrOk N k P) (h198 : MC F0 A0 tp N J G (d + 1) 198 [.ref 68, .int x1, .null, .null] P) : MC F0 A0 tp N J G (d + 2) 199 [.ref 68, .int x1] (bnS (opW tp N 16 (-14)) (nxS tp N) P) := by
  have badL : ∀ F A e Q, ME F0 A0 F A e → (∀ F' A', ME F0 A0 F' A' e → Q (.inl none) (F', A', J, G)) → X (d + 1) 189 0 [.ref 68, .ref 1016, .null, .null] [] (F, A, J, G) (KK (d + 2) 199 11 [.ref 68, .int x1] [] Q) := fun F A e Q hE hQ => m_189b hG (i := 16) (by decide) hE (k_199_11 hG ⟨fun _ => hQ F A hE, fun h => absurd rfl h⟩)
  refine ⟨fun F A s c Q hC h1 h0 => ?_, fun F A e Q hE hQ => t_199_0 hG (h198.2 F A e _ hE (fun F1 A1 hE1 => k_199_5 hG (badL F1 A1 e Q hE1 hQ)))⟩
  have L : ∀ f F A s c, N ≤ s + f → MR F0 A0 tp N F A s c → (∀ F' A' s' c', lpS (opW tp N 16 (-14)) (nxS tp N) P f s c = .inr (s', c') → MR F0 A0 tp N F' A' s' c' → Q (.inl none) (F', A', J, G)) → (∀ F' A' e, lpS (opW tp N 16 (-14)) (nxS tp N) P f s c = .inl e → ME F0 A0 F' A' e → Q (.inl none) (F', A', J, G)) → X (d + 1) 189 0 [.ref 68, .ref 1016, .null, .null] [] (F, A, J, G) (KK (d + 2) 199 11 [.ref 68, .int x1] [] Q) := by
    intro f
    induction f with
    | zero =>
      intro F A s c hf hC h1 h0
      exact m_189 hG (i := 16) (by decide) hC (fun hw => absurd (wd_lt hw) (by omega)) (fun hw => k_199_11 hG ⟨fun _ => h1 F A s c rfl hC, fun h => absurd rfl h⟩)
    | succ f ih =>
      intro F A s c hf hC h1 h0
      refine m_189 hG (i := 16) (by decide) hC (fun hw => k_199_11 hG ⟨fun h => absurd h ne10, fun _ => ?_⟩) (fun hw => k_199_11 hG ⟨fun _ => h1 F A s c ?_ hC, fun h => absurd rfl h⟩)
      · have ho : opW tp N 16 (-14) s = some (-14) := if_pos hw
        have hs := wd_lt hw
        have hun : lpS (opW tp N 16 (-14)) (nxS tp N) P (f + 1) s c = match P (nxS tp N s) c with | .inl e => .inl e | .inr q => lpS (opW tp N 16 (-14)) (nxS tp N) P f q.1 (q.2 ++ [-14]) := by rw [lpS, ho]; rfl
        refine MR_n hG hC (fun F1 hC1 => k_199_18 hG (h198.1 F1 A _ c _ hC1 (fun F2 A2 s2 c2 hp hC2 => k_199_23 hG ?_) (fun F2 A2 e hp hE => k_199_23 hG (lay_bad hE (t_199_5 hG (badL F2 A2 e Q hE (fun F' A' hE' => h0 F' A' e (by rw [hun, hp]) hE')))))))
        have hroom := mr_room hP hC hs hp
        have hgo := hP _ _ _ _ hp (nx_le (Nat.le_of_lt hs))
        have hgt := nx_gt (tp := tp) hs
        refine lay_if hC2 hroom (t_199_5 hG (ih _ _ s2 (c2 ++ [-14]) (by omega) (MR_a hC2 rfl hroom) (fun F' A' s' c' hq hC' => h1 F' A' s' c' (by rw [hun, hp]; exact hq) hC') (fun F' A' e hq hE => h0 F' A' e (by rw [hun, hp]; exact hq) hE)))
      · have ho : opW tp N 16 (-14) s = none := if_neg (by rw [hw]; decide)
        rw [lpS, ho]
  have n6 := hC.2.1.1
  exact t_199_0 hG (h198.1 F A s c _ hC (fun F1 A1 s1 c1 hp hC1 => k_199_5 hG (L 600 F1 A1 s1 c1 (by omega) hC1 (fun F' A' s' c' hq hC' => h1 F' A' s' c' (by unfold bnS; rw [hp]; exact hq) hC') (fun F' A' e hq hE => h0 F' A' e (by unfold bnS; rw [hp]; exact hq) hE))) (fun F1 A1 e hp hE => k_199_5 hG (badL F1 A1 e Q hE (fun F' A' hE' => h0 F' A' e (by unfold bnS; rw [hp]) hE'))))
theorem an_1 (h3 : ¬ kdS tp N s = 3) (h2 : ¬ kdS tp N s = 2) (hg : sgB tp N 40 s = false) : anS tp N E s c = .inl (1, s) := by
  have e1 : ptS tp N E s c = .inl (1, s) := by rw [ptS, if_neg h3, if_neg h2, if_neg (by rw [hg]; decide)]
  have e2 : prS tp N E s c = .inl (1, s) := by unfold prS bnS; rw [e1]
  have e3 : suS tp N E s c = .inl (1, s) := by unfold suS bnS; rw [e2]
  have e4 : teS tp N E s c = .inl (1, s) := by unfold teS onS; rw [e3]
  have e5 : noS tp N E s c = .inl (1, s) := by
    unfold noS
    rw [ntS, if_neg (fun h => h2 (of_decide_eq_true h).1), e4]
  unfold anS bnS
  rw [e5]
/-- behind a fault nothing is done -/
def MD (F0 A0 : Nat → Nat → Int32) (J : Nat → Nat → Int64) (G : pG) (d mid : Nat) (L : List Value) : Prop := ∀ F A e Q, ME F0 A0 F A e → (∀ F' A', ME F0 A0 F' A' e → Q (.inl none) (F', A', J, G)) → X d mid 0 L [] (F, A, J, G) Q
theorem md_195 (hG : Geo G SL p q) : MD F0 A0 J G (d + 3) 195 [.ref 68, .int x1, .null] := fun F A e Q hE hQ => t_195_0 hG ⟨fun h => absurd h (ME_b hE), fun _ => hQ F A hE⟩
theorem md_196 (hG : Geo G SL p q) (h : MD F0 A0 J G (d + 1) 195 [.ref 68, .int x1, .null]) : MD F0 A0 J G (d + 2) 196 [.ref 68, .int x1, .null] := fun F A e Q hE hQ => t_196_0 hG (h F A e _ hE (fun F1 A1 hE1 => k_196_5 hG (mk2_bad hE1 (hQ F1 A1 hE1))))
theorem md_197 (hG : Geo G SL p q) (h : MD F0 A0 J G (d + 1) 196 [.ref 68, .int x1, .null]) : MD F0 A0 J G (d + 2) 197 [.ref 68, .int x1, .null] := fun F A e Q hE hQ => t_197_0 hG (h F A e _ hE (fun F1 A1 hE1 => k_197_5 hG (mk2_bad hE1 (hQ F1 A1 hE1))))
theorem md_198 (hG : Geo G SL p q) (h : MD F0 A0 J G (d + 1) 197 [.ref 68, .int x1, .null]) : MD F0 A0 J G (d + 2) 198 [.ref 68, .int x1, .null, .null] := fun F A e Q hE hQ => t_198_0 hG (t_198_2 hG (m_189b hG (i := 9) (by decide) hE (k_198_8 hG ⟨fun _ => h F A e _ hE (fun F1 A1 hE1 => k_198_44 hG (mk2_bad hE1 (t_198_95 hG ⟨fun h => absurd h (by decide), fun _ => hQ F1 A1 hE1⟩))), fun h => absurd rfl h⟩)))
theorem md_199 (hG : Geo G SL p q) (h : MD F0 A0 J G (d + 1) 198 [.ref 68, .int x1, .null, .null]) : MD F0 A0 J G (d + 2) 199 [.ref 68, .int x1] := fun F A e Q hE hQ => t_199_0 hG (h F A e _ hE (fun F1 A1 hE1 => k_199_5 hG (m_189b hG (i := 16) (by decide) hE1 (k_199_11 hG ⟨fun _ => hQ F1 A1 hE1, fun h => absurd rfl h⟩))))
theorem mc_200 (hG : Geo G SL p q) {r : Nat} (hrw : r + w = 6) (hP : 0 < r → PrOk N k (anS tp N (exS tp N (r - 1)))) (hD : MD F0 A0 J G (d + 1) 199 [.ref 68, .int (zI (w : Int))]) (h199 : 0 < r → MC F0 A0 tp N J G (d + 1) 199 [.ref 68, .int (zI (w : Int))] (anS tp N (exS tp N (r - 1)))) : MC F0 A0 tp N J G (d + 2) 200 [.ref 68, .int (zI (w : Int)), .null] (exS tp N r) := by
  have badL : ∀ F A e Q x2, ME F0 A0 F A e → (∀ F' A', ME F0 A0 F' A' e → Q (.inl none) (F', A', J, G)) → X (d + 1) 189 0 [.ref 68, .ref 1017, .null, .null] [] (F, A, J, G) (KK (d + 2) 200 74 [.ref 68, .int (zI (w : Int)), .int x2] [] Q) := fun F A e Q x2 hE hQ => m_189b hG (i := 17) (by decide) hE (k_200_74 hG ⟨fun _ => hQ F A hE, fun h => absurd rfl h⟩)
  refine ⟨fun F A s c Q hC h1 h0 => ?_, fun F A e Q hE hQ => t_200_0 hG ⟨fun h => absurd h (ME_b hE), fun _ => hQ F A hE⟩⟩
  have f20 := hC.2.2.2.1
  have n6 := hC.2.1.1
  have badA : ∀ e x2, (∀ F' A', ME F0 A0 F' A' e → Q (.inl none) (F', A', J, G)) → ∀ F A, ME F0 A0 F A e → X (d + 1) 199 0 [.ref 68, .int (zI (w : Int))] [] (F, A, J, G) (KK (d + 2) 200 67 [.ref 68, .int (zI (w : Int)), .int x2] [] Q) := fun e x2 hQ F A hE => hD F A e _ hE (fun F1 A1 hE1 => k_200_67 hG (badL F1 A1 e Q x2 hE1 hQ))
  have may : (kdS tp N s = 3 ∨ kdS tp N s = 2 ∨ sgB tp N 40 s = true) → ((zI (w : Int) = 6 → (((F 68 20) = 0 → X (d + 1) 199 0 [.ref 68, .int (zI (w : Int))] [] ((wF (wF F 68 20 2) 68 21 (F 68 18)), A, J, G) (KK (d + 2) 200 67 [.ref 68, .int (zI (w : Int)), .int 1] [] Q)) ∧ (¬ (F 68 20) = 0 → X (d + 1) 199 0 [.ref 68, .int (zI (w : Int))] [] (F, A, J, G) (KK (d + 2) 200 67 [.ref 68, .int (zI (w : Int)), .int 1] [] Q)))) ∧ (¬ zI (w : Int) = 6 → X (d + 1) 199 0 [.ref 68, .int (zI (w : Int))] [] (F, A, J, G) (KK (d + 2) 200 67 [.ref 68, .int (zI (w : Int)), .int 1] [] Q))) := by
    intro hm
    rw [show (6 : Int32) = zI ((6 : Nat) : Int) from rfl, zN_eq (by omega) (by omega)]
    refine ⟨fun hw => ⟨fun _ => badA (2, s) 1 (fun F' A' hE' => h0 F' A' (2, s) ?_ hE') _ _ (MR_e hC rfl (by decide) (by decide)), fun h => absurd f20 h⟩, fun hw => ?_⟩
    · have : r = 0 := by omega
      subst this
      rw [exS]; dsimp only; rw [if_pos hm]
    · obtain ⟨r, rfl⟩ : ∃ r2, r = r2 + 1 := ⟨r - 1, by omega⟩
      have hP := hP (by omega)
      have h199 := h199 (by omega)
      rw [Nat.add_sub_cancel] at hP h199
      have L : ∀ f F A s c, N ≤ s + f → MR F0 A0 tp N F A s c → (∀ F' A' s' c', lpS (opW tp N 17 (-15)) (nxS tp N) (anS tp N (exS tp N r)) f s c = .inr (s', c') → MR F0 A0 tp N F' A' s' c' → Q (.inl none) (F', A', J, G)) → (∀ F' A' e, lpS (opW tp N 17 (-15)) (nxS tp N) (anS tp N (exS tp N r)) f s c = .inl e → ME F0 A0 F' A' e → Q (.inl none) (F', A', J, G)) → X (d + 1) 189 0 [.ref 68, .ref 1017, .null, .null] [] (F, A, J, G) (KK (d + 2) 200 74 [.ref 68, .int (zI (w : Int)), .int 1] [] Q) := by
        intro f
        induction f with
        | zero =>
          intro F A s c hf hC h1 h0
          exact m_189 hG (i := 17) (by decide) hC (fun hw => absurd (wd_lt hw) (by omega)) (fun hw => k_200_74 hG ⟨fun _ => h1 F A s c rfl hC, fun h => absurd rfl h⟩)
        | succ f ih =>
          intro F A s c hf hC h1 h0
          refine m_189 hG (i := 17) (by decide) hC (fun hw => k_200_74 hG ⟨fun h => absurd h ne10, fun _ => ?_⟩) (fun hw => k_200_74 hG ⟨fun _ => h1 F A s c ?_ hC, fun h => absurd rfl h⟩)
          · have ho : opW tp N 17 (-15) s = some (-15) := if_pos hw
            have hs := wd_lt hw
            have hun : lpS (opW tp N 17 (-15)) (nxS tp N) (anS tp N (exS tp N r)) (f + 1) s c = match (anS tp N (exS tp N r)) (nxS tp N s) c with | .inl e => .inl e | .inr q => lpS (opW tp N 17 (-15)) (nxS tp N) (anS tp N (exS tp N r)) f q.1 (q.2 ++ [-15]) := by rw [lpS, ho]; rfl
            refine MR_n hG hC (fun F1 hC1 => k_200_81 hG (h199.1 F1 A _ c _ hC1 (fun F2 A2 s2 c2 hp hC2 => k_200_86 hG ?_) (fun F2 A2 e hp hE => k_200_86 hG (lay_bad hE (t_200_67 hG (badL F2 A2 e Q 1 hE (fun F' A' hE' => h0 F' A' e (by rw [hun, hp]) hE')))))))
            have hroom := mr_room hP hC hs hp
            have hgo := hP _ _ _ _ hp (nx_le (Nat.le_of_lt hs))
            have hgt := nx_gt (tp := tp) hs
            refine lay_if hC2 hroom (t_200_67 hG (ih _ _ s2 (c2 ++ [-15]) (by omega) (MR_a hC2 rfl hroom) (fun F' A' s' c' hq hC' => h1 F' A' s' c' (by rw [hun, hp]; exact hq) hC') (fun F' A' e hq hE => h0 F' A' e (by rw [hun, hp]; exact hq) hE)))
          · have ho : opW tp N 17 (-15) s = none := if_neg (by rw [hw]; decide)
            rw [lpS, ho]
      have hex : exS tp N (r + 1) s c = bnS (opW tp N 17 (-15)) (nxS tp N) (anS tp N (exS tp N r)) s c := rfl
      rw [hex] at h1 h0
      exact h199.1 F A s c _ hC (fun F1 A1 s1 c1 hp hC1 => k_200_67 hG (L 600 F1 A1 s1 c1 (by omega) hC1 (fun F' A' s' c' hq hC' => h1 F' A' s' c' (by unfold bnS; rw [hp]; exact hq) hC') (fun F' A' e hq hE => h0 F' A' e (by unfold bnS; rw [hp]; exact hq) hE))) (fun F1 A1 e hp hE => k_200_67 hG (badL F1 A1 e Q 1 hE (fun F' A' hE' => h0 F' A' e (by unfold bnS; rw [hp]) hE')))
  refine t_200_0 hG ⟨fun _ => ?_, fun h => absurd f20 h⟩
  rw [tk_2 hC, tk_1 hC, mk_eq hC]
  refine ⟨fun h3 => may (Or.inl h3), fun h3 => ⟨fun h2 => may (Or.inr (Or.inl h2)), fun h2 => ⟨mk_in hC, fun hg => may (Or.inr (Or.inr hg)), fun hg => ⟨fun _ => badA (1, s) 0 (fun F' A' hE' => h0 F' A' (1, s) ?_ hE') _ _ (MR_e hC rfl (by decide) (by decide)), fun h => absurd f20 h⟩⟩⟩⟩
  cases r with
  | zero =>
    rw [exS]; dsimp only
    rw [if_neg (fun h => ?_)]
    rcases h with h | h | h
    · exact h3 h
    · exact h2 h
    · rw [hg] at h; cases h
  | succ r =>
    have hex : exS tp N (r + 1) s c = bnS (opW tp N 17 (-15)) (nxS tp N) (anS tp N (exS tp N r)) s c := rfl
    rw [hex]
    unfold bnS
    rw [an_1 h3 h2 hg]
theorem mc_ex (hG : Geo G SL p q) : ∀ (r w d : Nat), r + w = 6 → 6 * r + 8 ≤ d → MC F0 A0 tp N J G d 200 [.ref 68, .int (zI (w : Int)), .null] (exS tp N r)
  | 0, w, d, hw, hd => by
    obtain ⟨d2, rfl⟩ : ∃ d2, d = d2 + 8 := ⟨d - 8, by omega⟩
    exact mc_200 (d := d2 + 6) (k := 0) hG hw (fun h => absurd h (Nat.lt_irrefl _)) (md_199 (d := d2 + 5) hG (md_198 (d := d2 + 4) hG (md_197 (d := d2 + 3) hG (md_196 (d := d2 + 2) hG (md_195 (d := d2) hG))))) (fun h => absurd h (Nat.lt_irrefl _))
  | r + 1, w, d, hw, hd => by
    obtain ⟨d2, rfl⟩ : ∃ d2, d = d2 + 8 := ⟨d - 8, by omega⟩
    have ih := mc_ex hG r (w + 1) (d2 + 2) (by omega) (by omega)
    rw [← zN_1] at ih
    have hE := ex_ok (tp := tp) (N := N) r
    have h199 := mc_199 (d := d2 + 5) hG (no_ok hE) (mc_198 (d := d2 + 4) hG (by omega) (su_ok hE) (mc_197 (d := d2 + 3) hG (pr_ok hE) (mc_196 (d := d2 + 2) hG (pt_ok hE) (mc_195 (d := d2) hG ih))))
    exact mc_200 (d := d2 + 6) hG hw (fun _ => an_ok hE) (fun F A e Q => h199.2 F A e Q) (fun _ => h199)
end ReadME
