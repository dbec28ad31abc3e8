/-! the reference's plain questions -/
section PubM
variable {d : Nat} {F A : Nat → Nat → Int32} {J : Nat → Nat → Int64} {G : pG} {Q : pR → pM → Prop} {SL p q : Nat} {K : Nat → Nat → Int} {n h : Nat} {ord : Nat → Nat} {ml wd ln : Nat → Int} {yr z : Int}
theorem MTw_3 {v : Int32} (hW : MTw F A n h ord ml wd ln yr) : MTw (wF F 68 3 v) A n h ord ml wd ln yr := by
  unfold MTw at hW ⊢
  rw [wF_cell (by decide), wF_cell (by decide)]
  exact hW
theorem m_242 (hG : Geo G SL p q) (hT : MTn F A K n) (hW : MTw F A n h ord ml wd ln yr) (hQ : Q (.inl (some (.int (zI (morZ K h ord ml wd ln yr))))) (wF F 68 3 0, A, J, G)) : X (d + 7) 242 0 [.ref 68] [] (F, A, J, G) Q :=
  t_242_0 hG (m_219 hG (F := wF F 68 3 0) hT (MTw_3 hW) (k_242_9 hG hQ))
theorem m_271 (hG : Geo G SL p q) (hT : MTn F A K n) (hW : MTw F A n h ord ml wd ln yr) (hz : -2147483648 ≤ z ∧ z < 2147483648) (hb : ¬ (0 ≤ z ∧ z < h) → Q (.inl (some (.int 0))) (wF (wF F 68 3 0) 68 3 1, A, J, G)) (hQ : ∀ l : Nat, l < h → z = (l : Int) → Q (.inl (some (.int (zI (carZ K yr (ord l) (topB h l) - loadZ K h ord ml l))))) (wF F 68 3 0, A, J, G)) : X (d + 3) 271 0 [.ref 68, .int (zI z)] [] (F, A, J, G) Q := by
  have hT0 := hT
  have hW0 := MTw_3 (v := 0) hW
  obtain ⟨hK, hwm, e0, e1, e2, a0, a1, a2, a3⟩ := hT
  obtain ⟨hw, f1, f2, b0, b1, b2, b3⟩ := hW
  have h10' := hK.1
  have h10 : h ≤ 10 := Nat.le_trans hw.1 hK.1
  have f1' : wF F 68 3 0 68 28 = zI (h : Int) := by rw [wF_cell (by decide)]; exact f1
  have f2' : wF F 68 3 0 68 29 = zI yr := by rw [wF_cell (by decide)]; exact f2
  refine t_271_0 hG ?_
  rw [f1', f2', hB_z h10]
  refine ⟨rfl, inR_in hz h10 (fun l hl el => ?_) hb⟩
  have hq := hQ l hl el
  subst el
  have hol := hw.2.1 l hl
  have hk := (hK.2.1 _ hol).1
  rw [zI_clamp (n := l) (by omega), b0 l hl, zI_clamp (n := ord l) (by omega), a0 _ hol, a2 _ hol, top_z h10 hl, car_z hK hol hw.2.2.2.2]
  refine ⟨zN_in (by omega) (by decide), zN_in (by omega) (by decide), ?_, hwm, m_213 hG (F := wF F 68 3 0) hT0 hW0 hl (k_271_23 hG ?_)⟩
  · rw [zI_inB (by omega) (by omega)]; omega
  · rw [zI_sub]; exact hq
end PubM
