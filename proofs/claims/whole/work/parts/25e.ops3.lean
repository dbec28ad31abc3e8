/-! the most, its row, lifted -/
section Ops3
variable {D D' c c' SL p q p' q' : Nat} {xs : Nat → Int32} {F A F1 A1 F2 A2 : Nat → Nat → Int32} {J J2 : Nat → Nat → Int64} {G G' : pG} {K : Nat → Nat → Int} {n : Nat} {cd : Nat → Int} {cl m : Nat} {tp : Nat → Int32} {fp : Int32} {im : Bool} {B B' : BsT} {z : Int}
theorem o_17 {x : Int32} (hE : EN c SL xs F A G K n cd cl m tp fp im B B' p q) (hD : 60 ≤ D) (hD' : 60 ≤ D') : X D 143 0 [.ref 0, .int x] [] (F, A, J, G) (PE 101 0 c SL xs D' 249 [.ref 68, .int x, .null]) := by
  obtain ⟨D, rfl⟩ : ∃ e, D = e + 7 := ⟨D - 7, by omega⟩
  obtain ⟨D', rfl⟩ : ∃ e, D' = e + 5 := ⟨D' - 5, by omega⟩
  have hE' := hE
  obtain ⟨h1, h2, h3, h4, h5, h6, h7⟩ := hE
  have hn2 : 2 ^ n ≤ 1024 := Nat.pow_le_pow_right (n := 2) (by decide) h2.1.1.1
  obtain ⟨z, hz1, hz2, rfl⟩ := zI_of x
  have bad : ¬ (z = 0 ∨ z = 1) → PE 101 0 c SL xs (D' + 5) 249 [.ref 68, .int (zI z), .null] (.inr 101) (F, A, J, gThr G) := fun hb => PE_1 h1 (fun J1 => m_249 (Geo_thr h1) h3.1 (MI_w h3) ⟨hz1, hz2⟩ (fun _ r => Po_mk cod1 trivial rfl (EN_qt hE' CScr.rfl (MScr_code 1))) (fun M h => absurd h hb))
  have good : (z = 0 ∨ z = 1) → X (D + 6) 18 0 [.ref 61] [] (F, A, J, G) (KK (D + 7) 143 26 [.ref 0, .int (zI z)] [] (PE 101 0 c SL xs (D' + 5) 249 [.ref 68, .int (zI z), .null])) := fun hz => c_18 h1 h2.1 (CI_w h2) h2.2.2.2.2.2.2.1.1 h2.2.2.2.2.2.2.1.2 h2.2.2.2.2.2.1 (fun F1 A1 M hM g1 g2 g3 g4 g5 g6 g7 g8 => k_143n_26 h1 (by
    have hI : CI (c + 1) F1 A1 K n cd cl m tp fp im B B' := CI_pl (by omega) (fun i _ i1 i2 => g4 i i1 i2) g5 (fun i _ hi => g6 i hi) ⟨g7, g8⟩ (fun _ => ⟨M, hM, g1, g2⟩) h2
    have hMI := MI_lo (g4 68 (by decide) (by decide)) (fun i hi _ => g6 i (by omega)) h3
    have hM2 := hM.2.1
    have fin : ∀ {J1 J2 : Nat → Nat → Int64} {F2 A2 : Nat → Nat → Int32}, MScr F1 A1 F2 A2 → RS (c + 1) SL xs (F2, A2, J2, G) := fun hs => EN_e h1 hI hMI hs h4 (by rw [g6 2000 (by decide)]; exact h5) (by omega) (by omega)
    rw [show (0 : Int32) = zI 0 from rfl, zI_eq hz1 hz2 (by omega) (by omega), g1, zI_clamp (n := M) (by omega)]
    refine ⟨fun e => ⟨zN_in (by omega) (by decide), PE_0 h1 (fun J1 => m_249 h1 hMI.1 (MI_w hMI) ⟨hz1, hz2⟩ (fun hb => absurd hz hb) (fun M2 _ hM3 F2 A2 J2 hJ hs hc => ?_))⟩, fun e => PE_0 h1 (fun J1 => m_249 h1 hMI.1 (MI_w hMI) ⟨hz1, hz2⟩ (fun hb => absurd hz hb) (fun M2 _ hM3 F2 A2 J2 hJ hs hc => ?_))⟩
    · rw [if_pos e, ms_unique hM3 hM]
      exact Po_mk hc (by rw [zI_nI]) (hJ 104 (by decide)) (fin (J1 := J2) hs)
    · rw [if_neg e, ms_unique hM3 hM]
      exact Po_mk hc rfl (hJ 104 (by decide)) (fin (J1 := J2) hs)))
  refine t_143n_0 h1 ?_
  rw [show (0 : Int32) = zI 0 from rfl, show (1 : Int32) = zI 1 from rfl, zI_eq hz1 hz2 (by omega) (by omega), zI_eq hz1 hz2 (by omega) (by omega)]
  exact ⟨fun e => good (Or.inl e), fun e => ⟨fun e2 => good (Or.inr e2), fun e2 => bad (by omega)⟩⟩
theorem o_18 {x : Int32} (hE : EN c SL xs F A G K n cd cl m tp fp im B B' p q) (hD : 60 ≤ D) (hD' : 60 ≤ D') : X D 144 0 [.ref 0, .int x] [] (F, A, J, G) (PE 101 0 c SL xs D' 250 [.ref 68, .int x, .null, .null, .null, .null, .null]) := by
  obtain ⟨D, rfl⟩ : ∃ e, D = e + 7 := ⟨D - 7, by omega⟩
  obtain ⟨D', rfl⟩ : ∃ e, D' = e + 5 := ⟨D' - 5, by omega⟩
  have hE' := hE
  obtain ⟨h1, h2, h3, h4, h5, h6, h7⟩ := hE
  have hn2 : 2 ^ n ≤ 1024 := Nat.pow_le_pow_right (n := 2) (by decide) h2.1.1.1
  obtain ⟨z, hz1, hz2, rfl⟩ := zI_of x
  refine t_144n_0 h1 (c_18 h1 h2.1 (CI_w h2) h2.2.2.2.2.2.2.1.1 h2.2.2.2.2.2.2.1.2 h2.2.2.2.2.2.1 (fun F1 A1 M hM g1 g2 g3 g4 g5 g6 g7 g8 => k_144n_7 h1 ?_))
  have hI : CI (c + 1) F1 A1 K n cd cl m tp fp im B B' := CI_pl (by omega) (fun i _ i1 i2 => g4 i i1 i2) g5 (fun i _ hi => g6 i hi) ⟨g7, g8⟩ (fun _ => ⟨M, hM, g1, g2⟩) h2
  have hMI := MI_lo (g4 68 (by decide) (by decide)) (fun i hi _ => g6 i (by omega)) h3
  have hM2 := hM.2.1
  have hp10 : pcn M ≤ 10 := pcn_le
  have x2000 : A1 2000 = xs := by rw [g6 2000 (by decide)]; exact h5
  rw [zI_lt0 ⟨hz1, hz2⟩, g1, zI_clamp (n := M) (by omega), zI_nI, zI_lt hz1 hz2 (by omega) (by omega)]
  have bad : ¬ (0 ≤ z ∧ z < pcn M) → PE 101 0 c SL xs (D' + 5) 250 [.ref 68, .int (zI z), .null, .null, .null, .null, .null] (.inr 101) (F1, A1, J, gThr G) := fun hb => PE_1 h1 (fun J1 => m_250 (Geo_thr h1) hMI.1 (MI_w hMI) ⟨hz1, hz2⟩ (fun M2 hM3 _ F2 A2 J2 r hJ hs hc => Po_mk hc trivial (hJ 104 (by decide)) (EN_e (Geo_thr h1) hI hMI hs h4 x2000 (by have := gThr_C (G := G); omega) (by have := gThr_S (G := G); omega))) (fun M2 i he hi hM3 => by
    have := ms_unique hM3 hM
    subst this
    exact absurd (show 0 ≤ z ∧ z < pcn M2 by omega) hb))
  refine ⟨fun e => bad (by omega), fun e => ⟨zN_in (by omega) (by decide), fun e2 => ?_, fun e2 => bad (by omega)⟩⟩
  obtain ⟨i, rfl⟩ : ∃ i : Nat, z = i := ⟨z.toNat, by omega⟩
  rw [zI_clamp (n := i) (by omega), g2 i (by omega)]
  refine ⟨zN_in (by omega) (by decide), PE_0 h1 (fun J1 => m_250 h1 hMI.1 (MI_w hMI) ⟨hz1, hz2⟩ (fun M2 hM3 hb => ?_) (fun M2 i2 he hi hM3 F2 A2 J2 hJ hs hc => ?_))⟩
  · have := ms_unique hM3 hM
    subst this
    exact absurd (show 0 ≤ (i : Int) ∧ (i : Int) < pcn M2 by omega) hb
  · have := ms_unique hM3 hM
    subst this
    have : i2 = i := by omega
    subst this
    exact Po_mk hc rfl (hJ 104 (by decide)) (EN_e h1 hI hMI hs h4 x2000 (by omega) (by omega))
/-- bits of tables that there are -/
theorem and_not0 (a b : Nat) : a ^^^ (a &&& b) = 0 ↔ a &&& b = a := by
  constructor
  · intro h
    apply Nat.eq_of_testBit_eq
    intro i
    have h1 : (a ^^^ (a &&& b)).testBit i = false := by rw [h]; exact Nat.zero_testBit i
    rw [Nat.testBit_xor, Nat.testBit_and] at h1
    rw [Nat.testBit_and]
    cases ha : a.testBit i <;> cases hb : b.testBit i <;> rw [ha, hb] at h1 <;> first | rfl | exact absurd h1 (by decide)
  · intro h; rw [h, Nat.xor_self]
theorem zI_wrap (w : Int) : zI w = zI (w - 4294967296) := by
  have h : zI (w - 4294967296) = zI w - zI 4294967296 := (zI_sub _ _).symm
  rw [h, show zI 4294967296 = 0 from by decide]
  simp
theorem set_z (hz : -2147483648 ≤ z ∧ z < 2147483648) (hn : n ≤ 10) : ((zI z &&& ((((1 : Int32) <<< ((zI (n : Int)) &&& 31)) - 1) ^^^ (-1))) = 0) = (0 ≤ z ∧ z < (2 ^ n : Nat)) := by
  have hn2 : 2 ^ n ≤ 1024 := Nat.pow_le_pow_right (n := 2) (by decide) hn
  have hn1 : 0 < 2 ^ n := Nat.two_pow_pos n
  rw [shl_z n (by omega), zZ_s1, show ((2 ^ n : Nat) : Int) - 1 = ((2 ^ n - 1 : Nat) : Int) by omega]
  by_cases h0 : 0 ≤ z
  · obtain ⟨a, rfl⟩ : ∃ i : Nat, z = i := ⟨z.toNat, by omega⟩
    have hle := rmv_le' a (2 ^ n - 1)
    rw [zN_andn, show (0 : Int32) = zI ((0 : Nat) : Int) from rfl, zN_eq (by omega) (by omega), and_not0, Nat.and_two_pow_sub_one_eq_mod]
    apply propext
    constructor
    · intro h
      have := Nat.mod_lt a hn1
      omega
    · intro h
      exact Nat.mod_eq_of_lt (by omega)
  · obtain ⟨a, ha⟩ : ∃ i : Nat, z + 4294967296 = i := ⟨(z + 4294967296).toNat, by omega⟩
    have hz' : zI z = zI (a : Int) := by rw [← ha, zI_wrap (z + 4294967296)]; congr 1; omega
    have hle := rmv_le' a (2 ^ n - 1)
    rw [hz', zN_andn]
    have hne : a ^^^ (a &&& (2 ^ n - 1)) ≠ 0 := by
      intro h
      rw [and_not0, Nat.and_two_pow_sub_one_eq_mod] at h
      have := Nat.mod_lt a hn1
      omega
    generalize a ^^^ (a &&& (2 ^ n - 1)) = w at hle hne
    apply propext
    constructor
    · intro h
      exfalso
      by_cases hw : w < 2147483648
      · rw [show (0 : Int32) = zI ((0 : Nat) : Int) from rfl, zN_eq hw (by decide)] at h
        exact hne h
      · rw [zI_wrap, show (0 : Int32) = zI 0 from rfl, zI_eq (by omega) (by omega) (by omega) (by omega)] at h
        omega
    · intro h; omega
theorem o_28 {x y : Int32} (hE : EN c SL xs F A G K n cd cl m tp fp im B B' p q) (hD : 60 ≤ D) (hD' : 60 ≤ D') : X D 154 0 [.ref 0, .int x, .int y] [] (F, A, J, G) (PF 100 c SL xs D' 253 [.ref 68, .int x, .int y, .null, .null]) := by
  obtain ⟨D, rfl⟩ : ∃ e, D = e + 6 := ⟨D - 6, by omega⟩
  obtain ⟨D', rfl⟩ : ∃ e, D' = e + 5 := ⟨D' - 5, by omega⟩
  have hE' := hE
  obtain ⟨h1, h2, h3, h4, h5, h6, h7⟩ := hE
  have h10 := h2.1.1.1
  have hn2 : 2 ^ n ≤ 1024 := Nat.pow_le_pow_right (n := 2) (by decide) h10
  obtain ⟨z, hz1, hz2, rfl⟩ := zI_of x
  obtain ⟨u, hu1, hu2, rfl⟩ := zI_of y
  have bad : ¬ ((0 ≤ z ∧ z < (2 ^ n : Nat)) ∧ (0 ≤ u ∧ u ≤ 10)) → PF 100 c SL xs (D' + 5) 253 [.ref 68, .int (zI z), .int (zI u), .null, .null] (.inr 100) (F, A, J, gThr G) := fun hb => ⟨1, 0, Or.inr ⟨rfl, rfl⟩, ⟨p, q, Geo_thr h1⟩, fun J1 => m_253 (Geo_thr h1) h3.1 (MI_w h3) ⟨hz1, hz2⟩ ⟨hu1, hu2⟩ (fun _ r => ⟨r, rfl, cod1 (F := F), fun h => absurd h (by decide), rfl, EN_qt hE' CScr.rfl (MScr_code 1)⟩) (fun li se e1 e2 hl hs => absurd (show (0 ≤ z ∧ z < (2 ^ n : Nat)) ∧ (0 ≤ u ∧ u ≤ 10) by omega) hb)⟩
  refine t_154n_0 h1 ?_
  rw [h2.1.2.1, set_z ⟨hz1, hz2⟩ h10, zI_lt0 ⟨hu1, hu2⟩, show (10 : Int32) = zI 10 from rfl, zI_lt (by omega) (by omega) hu1 hu2]
  refine ⟨fun e => ⟨fun e2 => bad (by omega), fun e2 => ⟨fun e3 => bad (by omega), fun e3 => ?_⟩⟩, fun e => bad (fun h => e h.1)⟩
  obtain ⟨a, rfl⟩ : ∃ i : Nat, z = i := ⟨z.toNat, by omega⟩
  obtain ⟨b, rfl⟩ : ∃ i : Nat, u = i := ⟨u.toNat, by omega⟩
  refine c_19 h1 h2.1 (CI_w h2) h2.2.2.2.2.2.2.1.1 h2.2.2.2.2.2.2.1.2 (by omega) (by omega) (fun F1 A1 g1 g2 g3 g4 g5 => k_154n_44 h1 ?_)
  have hI : CI (c + 1) F1 A1 K n cd cl m tp fp im B B' := CI_pl (by omega) (fun i _ _ hi => g1 i hi) (fun k _ => by rw [g1 21 (by decide)]) (fun i _ hi => g3 i (by omega)) ⟨g4, g5⟩ (by unfold CMs; rw [g1 21 (by decide), g2 2 (by decide), g3 62 (by decide)]; exact h2.2.2.2.2.2.1) h2
  have hM := MI_lo (g1 68 (by decide)) (fun i hi _ => g3 i (by omega)) h3
  refine ⟨0, _, Or.inl ⟨rfl, rfl⟩, ⟨p, q, h1⟩, fun J1 => m_253 h1 hM.1 (MI_w hM) ⟨hz1, hz2⟩ ⟨hu1, hu2⟩ (fun h => absurd (show (0 ≤ (a : Int) ∧ (a : Int) < (2 ^ n : Nat)) ∧ (0 ≤ (b : Int) ∧ (b : Int) ≤ 10) by omega) h) (fun li se e1 e2' hl hs F2 A2 J2 hJ hs2 hc => ⟨_, rfl, hc, fun _ => ?_, hJ 104 (by decide), EN_e h1 hI hM hs2 h4 (by rw [g3 2000 (by decide)]; exact h5) (show gC G ≤ 105 + (c + 1) by omega) (show gS G ≤ 20000 + 6 * (c + 1) by omega)⟩)⟩
  have h9 : li = a := by omega
  have h8 : se = b := by omega
  rw [h9, h8]
  rfl
end Ops3
