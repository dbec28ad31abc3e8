/-! the reference: two that marry, those by THE TOWER -/
section PubM2
variable {d : Nat} {F A : Nat → Nat → Int32} {J : Nat → Nat → Int64} {G : pG} {Q : pR → pM → Prop} {SL p q : Nat} {K : Nat → Nat → Int} {n h : Nat} {ord : Nat → Nat} {ml wd ln : Nat → Int} {yr z z1 z2 : Int}
theorem m_259 (hG : Geo G SL p q) (hT : MTn F A K n) (hW : MTw F A n h ord ml wd ln yr) (hz1 : -2147483648 ≤ z1 ∧ z1 < 2147483648) (hz2 : -2147483648 ≤ z2 ∧ z2 < 2147483648) (hb : ¬ ((0 ≤ z1 ∧ z1 < n) ∧ (0 ≤ z2 ∧ z2 < n)) → Q (.inl (some (.int 0))) (wF (wF F 68 3 0) 68 3 1, A, J, G)) (he : ((0 ≤ z1 ∧ z1 < n) ∧ (0 ≤ z2 ∧ z2 < n)) → z1 = z2 → Q (.inl (some (.int 0))) (wF (wF F 68 3 0) 68 3 2, A, J, G)) (hQ : ∀ i j : Nat, i < n → j < n → z1 = (i : Int) → z2 = (j : Int) → i ≠ j → Q (.inl (some (.int (bI (marB (zI (carZ K yr i false)) (zI (K 1 j)) (zI (carZ K yr j false)) (zI (K 1 i))))))) (wF F 68 3 0, A, J, G)) : X (d + 3) 259 0 [.ref 68, .int (zI z1), .int (zI z2)] [] (F, A, J, G) Q := by
  obtain ⟨hK, hwm, e0, e1, e2, a0, a1, a2, a3⟩ := hT
  obtain ⟨hw, f1, f2, b0, b1, b2, b3⟩ := hW
  have h10' := hK.1
  have f2' : wF F 68 3 0 68 29 = zI yr := by rw [wF_cell (by decide)]; exact f2
  refine t_259_0 hG ?_
  rw [e0, f2', hB_z h10']
  refine ⟨rfl, inR_in hz1 h10' (fun i hi ei => inR_in hz2 h10' (fun j hj ej => ?_) (fun e => hb (fun q => e q.2))) (fun e => hb (fun q => e q.1))⟩
  rw [zI_eq hz1.1 hz1.2 hz2.1 hz2.2]
  refine ⟨fun e => he (by omega) e, fun e => ?_⟩
  have hq := hQ i j hi hj ei ej (by omega)
  subst ei
  subst ej
  have hk1 := (hK.2.1 i hi).1
  have hk2 := (hK.2.1 j hj).1
  rw [zI_clamp (n := i) (by omega), zI_clamp (n := j) (by omega), a0 i hi, a0 j hj, a1 i hi, a1 j hj, a2 i hi, a2 j hj, car_z0 hK hi hw.2.2.2.2, car_z0 hK hj hw.2.2.2.2]
  refine ⟨zN_in (by omega) (by decide), zN_in (by omega) (by decide), ?_, ?_, hwm, hq⟩
  · rw [zI_inB (by omega) (by omega)]; omega
  · rw [zI_inB (by omega) (by omega)]; omega
end PubM2
