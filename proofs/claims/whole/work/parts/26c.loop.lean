/-! the law's loop -/
section Loop26
variable {d c SL : Nat} {xs : Nat → Int32}
def Qf : pR → pM → Prop := fun r M => r = .inl (some (.int 1)) ∧ gC M.2.2.2 ≤ 601024 ∧ gS M.2.2.2 ≤ 7293034
theorem RS_mono {M : pM} (h : RS c SL xs M) : RS (c + 1) SL xs M := by
  obtain ⟨p, q, h1, ⟨K, n, cd, cl, m, tp, fp, im, B, B', h2, h3, h4, h5⟩, h6, h7, h8⟩ := h
  exact ⟨p, q, h1, ⟨K, n, cd, cl, m, tp, fp, im, B, B', CI_hi (Nat.le_succ _) (fun _ _ => rfl) (fun _ _ => rfl) h2, h3, h4, h5⟩, h6, by omega, by omega⟩
theorem law_loop (hd : 60 ≤ d) (hSL : SL ≤ 3072) : ∀ (f c : Nat) v5 v6 M, RS c SL xs M → SL ≤ 6 * c + 6 * f + 5 → c + f ≤ 513 → X (d + 9) 312 23 [.ref 2000, .ref 0, .ref 68, .ref 104, .int (zI ((6 * c : Nat) : Int)), v5, v6, .null] [] M Qf := by
  intro f
  have out : ∀ (c : Nat) M, RS c SL xs M → c ≤ 513 → Qf (.inl (some (.int 1))) M := fun c M h hc => by
    obtain ⟨p, q, _, _, _, h7, h8⟩ := h
    exact ⟨rfl, by omega, by omega⟩
  have e6 : ∀ c : Nat, c ≤ 513 → ((nI SL - 6 < zI ((6 * c : Nat) : Int)) = ((SL : Int) - 6 < ((6 * c : Nat) : Int))) := fun c hc => by
    rw [zI_nI, show (6 : Int32) = zI 6 from rfl, zI_sub, zI_lt (by omega) (by omega) (by omega) (by omega)]
  induction f with
  | zero =>
    intro c v5 v6 M hR hS hc
    obtain ⟨F, A, J, G⟩ := M
    obtain ⟨p, q, hG, _⟩ := id hR
    refine t_312_23 hG ?_
    rw [e6 c (by omega)]
    exact ⟨fun _ => out c _ hR (by omega), fun h => absurd (by omega) h⟩
  | succ f ih =>
    intro c v5 v6 M hR hS hc
    obtain ⟨F, A, J, G⟩ := M
    obtain ⟨p, q, hG, _⟩ := id hR
    refine t_312_23 hG ?_
    rw [e6 c (by omega)]
    refine ⟨fun _ => out c _ hR (by omega), fun h => ?_⟩
    have i0 : inB (zI ((6 * c : Nat) : Int)) SL = true := zN_in (by omega) (by omega)
    have ij : ∀ j : Nat, j ≤ 5 → inB (zI ((6 * c : Nat) : Int) + zI (j : Int)) SL = true := fun j hj => by
      rw [zN_add]; exact zN_in (by omega) (by omega)
    have i1 := ij 1 (by decide)
    have i2 := ij 2 (by decide)
    have i3 := ij 3 (by decide)
    have i4 := ij 4 (by decide)
    have i5 := ij 5 (by decide)
    have hK : ∀ v5 v6 M, RS (c + 1) SL xs M → X (d + 9) 312 1995 [.ref 2000, .ref 0, .ref 68, .ref 104, .int (zI ((6 * c : Nat) : Int)), v5, v6, .null] [] M Qf := by
      intro v5 v6 M hR2
      obtain ⟨F2, A2, J2, G2⟩ := M
      obtain ⟨p2, q2, hG2, _⟩ := id hR2
      refine t_312_1995 hG2 ?_
      rw [show (6 : Int32) = zI ((6 : Nat) : Int) from rfl, zN_add, show 6 * c + 6 = 6 * (c + 1) by omega]
      exact ih (c + 1) v5 v6 _ hR2 (by omega) (by omega)
    have hc6 : c < 600 := by omega
    exact ⟨i0, fun _ => w_0 hR hc6 hd i1 i2 i3 i4 i5 hK, fun _ => w_1 hR hc6 hd i1 i2 i3 i4 i5 hK, fun _ => w_2 hR hc6 hd i1 i2 i3 i4 i5 hK, fun _ => w_3 hR hc6 hd i1 i2 i3 i4 i5 hK, fun _ => w_4 hR hc6 hd i1 i2 i3 i4 i5 hK, fun _ => w_5 hR hc6 hd i1 i2 i3 i4 i5 hK, fun _ => w_6 hR hc6 hd i1 i2 i3 i4 i5 hK, fun _ => w_7 hR hc6 hd i1 i2 i3 i4 i5 hK, fun _ => w_8 hR hc6 hd i1 i2 i3 i4 i5 hK, fun _ => w_9 hR hc6 hd i1 i2 i3 i4 i5 hK, fun _ => w_10 hR hc6 hd i1 i2 i3 i4 i5 hK, fun _ => w_11 hR hc6 hd i1 i2 i3 i4 i5 hK, fun _ => w_12 hR hc6 hd i1 i2 i3 i4 i5 hK, fun _ => w_13 hR hc6 hd i1 i2 i3 i4 i5 hK, fun _ => w_14 hR hc6 hd i1 i2 i3 i4 i5 hK, fun _ => w_15 hR hc6 hd i1 i2 i3 i4 i5 hK, fun _ => w_16 hR hc6 hd i1 i2 i3 i4 i5 hK, fun _ => w_17 hR hc6 hd i1 i2 i3 i4 i5 hK, fun _ => w_18 hR hc6 hd i1 i2 i3 i4 i5 hK, fun _ => w_19 hR hc6 hd i1 i2 i3 i4 i5 hK, fun _ => w_20 hR hc6 hd i1 i2 i3 i4 i5 hK, fun _ => w_21 hR hc6 hd i1 i2 i3 i4 i5 hK, fun _ => w_22 hR hc6 hd i1 i2 i3 i4 i5 hK, fun _ => w_23 hR hc6 hd i1 i2 i3 i4 i5 hK, fun _ => w_24 hR hc6 hd i1 i2 i3 i4 i5 hK, fun _ => w_25 hR hc6 hd i1 i2 i3 i4 i5 hK, fun _ => w_26 hR hc6 hd i1 i2 i3 i4 i5 hK, fun _ => w_27 hR hc6 hd i1 i2 i3 i4 i5 hK, fun _ => w_28 hR hc6 hd i1 i2 i3 i4 i5 hK, fun _ => w_29 hR hc6 hd i1 i2 i3 i4 i5 hK, fun _ => w_30 hR hc6 hd i1 i2 i3 i4 i5 hK, fun _ => w_31 hR hc6 hd i1 i2 i3 i4 i5 hK, fun _ => w_32 hR hc6 hd i1 i2 i3 i4 i5 hK, fun _ => w_33 hR hc6 hd i1 i2 i3 i4 i5 hK, fun _ => w_34 hR hc6 hd i1 i2 i3 i4 i5 hK, fun _ => w_35 hR hc6 hd i1 i2 i3 i4 i5 hK, fun _ => w_36 hR hc6 hd i1 i2 i3 i4 i5 hK, fun _ => w_37 hR hc6 hd i1 i2 i3 i4 i5 hK, fun _ => w_38 hR hc6 hd i1 i2 i3 i4 i5 hK, fun _ => w_39 hR hc6 hd i1 i2 i3 i4 i5 hK, fun _ => w_40 hR hc6 hd i1 i2 i3 i4 i5 hK, fun _ => w_41 hR hc6 hd i1 i2 i3 i4 i5 hK, fun _ => w_42 hR hc6 hd i1 i2 i3 i4 i5 hK, fun _ => w_43 hR hc6 hd i1 i2 i3 i4 i5 hK, fun _ => hK _ _ _ (RS_mono hR)⟩
end Loop26
