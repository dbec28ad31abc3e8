/-! years by a seed -/
section YearsZ
variable {d : Nat} {F A F' A' F'' A'' : Nat → Nat → Int32} {J : Nat → Nat → Int64} {G : pG} {Q : pR → pM → Prop} {SL p q t a na b i l f : Nat} {K : Nat → Nat → Int} {n h : Nat} {ord ord' : Nat → Nat} {ml wd ln ml' wd' ln' : Nat → Int} {yr z y v τ x fd : Int} {s : Int32}
theorem bit15 : ∀ i, i < 32 → ¬ i < 15 → (32767#32).getLsbD i = false := by decide
theorem sh16 (s : Int32) : (s >>> ((16 : Int32) &&& 31)) &&& 32767 = (jushr s 16) &&& 32767 := by
  refine Int32.toBitVec_inj.1 ?_
  have h1 : (s >>> ((16 : Int32) &&& 31)).toBitVec = s.toBitVec.sshiftRight 16 := by
    show s.toBitVec.sshiftRight' (((16 : Int32) &&& 31).toBitVec.smod 32) = _
    rw [show ((16 : Int32) &&& 31).toBitVec.smod 32 = 16#32 from by decide]
    rfl
  have h2 : (jushr s 16).toBitVec = s.toBitVec >>> 16 := by
    show s.toBitVec >>> (((16 : Int32).toUInt32 &&& Int32.toUInt32 31) % 32).toBitVec = _
    rw [show (((16 : Int32).toUInt32 &&& Int32.toUInt32 31) % 32).toBitVec = 16#32 from by decide]
    rfl
  rw [Int32.toBitVec_and, Int32.toBitVec_and, h1, h2]
  ext i hi
  rw [BitVec.getElem_and, BitVec.getElem_and, BitVec.getElem_sshiftRight, BitVec.getElem_ushiftRight]
  by_cases h15 : i < 15
  · rw [dif_pos (show 16 + i < 32 by omega)]
    rfl
  · have h3 : (32767 : Int32).toBitVec[i] = false := by
      have := bit15 i hi h15
      rw [BitVec.getLsbD_eq_getElem hi] at this
      exact this
    rw [h3, Bool.and_false, Bool.and_false]
theorem i32_nat (x : Int32) : x = zI (x.toBitVec.toNat : Int) := by
  rw [← zI_nI]
  exact Int32.toBitVec_inj.1 (by simp [nI, Int32.toBitVec_ofNat'])
def drN (s : Int32) : Nat := ((jushr s 16) &&& 32767).toBitVec.toNat
theorem drN_lt (s : Int32) : drN s < 32768 := by
  unfold drN
  rw [Int32.toBitVec_and, BitVec.toNat_and]
  exact Nat.lt_of_le_of_lt Nat.and_le_right (by decide)
theorem dr_z (s : Int32) : (jushr s 16) &&& 32767 = zI (drN s : Int) := i32_nat _
theorem rem_z {k m : Nat} (hk : k < 32768) (hm : 0 < m) (hm2 : m ≤ 10) : jrem (zI (k : Int)) (zI (m : Int)) = zI ((k % m : Nat) : Int) := by
  have hd : zI (k : Int) / zI (m : Int) = zI ((k / m : Nat) : Int) := by
    have hq : k / m ≤ k := Nat.div_le_self k m
    rw [← Int32.toInt_inj, Int32.toInt_div, zI_toInt (a := (k : Int)) (by omega) (by omega), zI_toInt (a := (m : Int)) (by omega) (by omega), Int.tdiv_eq_ediv_of_nonneg (by omega), ← Int.natCast_ediv]
    generalize k / m = c at hq
    rw [zI_toInt (by omega) (by omega), Int.bmod_eq_of_le (by omega) (by omega)]
  unfold jrem
  rw [hd, zI_mul, zI_sub]
  congr 1
  have := Nat.div_add_mod k m
  have h2 : ((k / m : Nat) : Int) * (m : Int) = ((m * (k / m) : Nat) : Int) := by rw [Int.mul_comm]; rfl
  rw [h2]
  omega
def sdZ (s : Int32) : Int32 := s * 1103515245 + 12345
/-- a year's draw -/
def dcZ (K : Nat → Nat → Int) (n h : Nat) (ord : Nat → Nat) (u : Int32 × (Nat → Int) × (Nat → Int)) : Int32 × (Nat → Int) × (Nat → Int) :=
  if n = 0 then u else if drN (sdZ (sdZ u.1)) % 5 = 0 then (sdZ (sdZ u.1), u.2.1, upZ u.2.2 (drN (sdZ u.1) % n) (min 9 (u.2.2 (drN (sdZ u.1) % n) + 1)))
  else if drN (sdZ (sdZ u.1)) % 5 = 1 then (sdZ (sdZ u.1), u.2.1, upZ u.2.2 (drN (sdZ u.1) % n) (max (-9) (u.2.2 (drN (sdZ u.1) % n) - 1)))
  else if drN (sdZ (sdZ u.1)) % 5 = 2 ∧ (bst ord h).testBit (drN (sdZ u.1) % n) = true then (sdZ (sdZ u.1), upZ u.2.1 (drN (sdZ u.1) % n) (u.2.1 (drN (sdZ u.1) % n) + K 3 (drN (sdZ u.1) % n)), u.2.2)
  else (sdZ (sdZ u.1), u.2.1, u.2.2)
def dyZ (K : Nat → Nat → Int) (n h : Nat) (ord : Nat → Nat) (ml ln : Nat → Int) (s : Int32) : Nat → Int32 × (Nat → Int) × (Nat → Int)
  | 0 => (s, ml, ln)
  | k + 1 => dcZ K n h ord (dyZ K n h ord ml ln s k)
/-- how many it stood, the first not -/
def dsZ (K : Nat → Nat → Int) (n h : Nat) (ord : Nat → Nat) (ml wd ln : Nat → Int) (yr : Int) (s : Int32) : Nat → Int × Int
  | 0 => (0, -1)
  | k + 1 => if stdB K h ord (dyZ K n h ord ml ln s (k + 1)).2.1 wd (dyZ K n h ord ml ln s (k + 1)).2.2 (yr + (k + 1 : Nat)) = true then ((dsZ K n h ord ml wd ln yr s k).1 + 1, (dsZ K n h ord ml wd ln yr s k).2) else ((dsZ K n h ord ml wd ln yr s k).1, if (dsZ K n h ord ml wd ln yr s k).2 = -1 then ((k + 1 : Nat) : Int) else (dsZ K n h ord ml wd ln yr s k).2)
theorem ds_b : ∀ k, 0 ≤ (dsZ K n h ord ml wd ln yr s k).1 ∧ (dsZ K n h ord ml wd ln yr s k).1 ≤ k ∧ -1 ≤ (dsZ K n h ord ml wd ln yr s k).2 ∧ (dsZ K n h ord ml wd ln yr s k).2 ≤ k
  | 0 => by simp [dsZ]
  | k + 1 => by
    have := ds_b k
    rw [dsZ]
    split
    · dsimp only; omega
    · dsimp only
      split <;> omega
theorem dy_ok (hK : TnOk K n) (hw : TwOk n h ord ml wd ln yr) (hml : ∀ i, i < n → ml i ≤ 999) (hyr : yr ≤ 999) : ∀ k, k ≤ 40 → TwOk n h ord (dyZ K n h ord ml ln s k).2.1 wd (dyZ K n h ord ml ln s k).2.2 (yr + k) ∧ ∀ i, i < n → (dyZ K n h ord ml ln s k).2.1 i ≤ 999 + 99 * k
  | 0, _ => by
    refine ⟨?_, fun i hi => by have := hml i hi; show ml i ≤ _; omega⟩
    rw [show yr + ((0 : Nat) : Int) = yr by omega]
    exact hw
  | k + 1, hk => by
    obtain ⟨h1, h2⟩ := dy_ok hK hw hml hyr k (by omega)
    have hy := hw.2.2.2.2
    obtain ⟨a1, a2, a3, a4, a5⟩ := h1
    have hyr' : 0 ≤ yr + ((k + 1 : Nat) : Int) ∧ yr + ((k + 1 : Nat) : Int) ≤ 1200 := by omega
    have hsame : TwOk n h ord (dyZ K n h ord ml ln s k).2.1 wd (dyZ K n h ord ml ln s k).2.2 (yr + ((k + 1 : Nat) : Int)) := ⟨a1, a2, a3, a4, hyr'⟩
    have hle : ∀ i, i < n → (dyZ K n h ord ml ln s k).2.1 i ≤ 999 + 99 * ((k + 1 : Nat) : Int) := fun i hi => by have := h2 i hi; omega
    rw [dyZ]
    unfold dcZ
    generalize drN (sdZ (dyZ K n h ord ml ln s k).1) % n = tt
    split
    · exact ⟨hsame, hle⟩
    · split
      · refine ⟨⟨a1, a2, a3, fun i hi => ⟨(a4 i hi).1, (a4 i hi).2.1, ?_⟩, hyr'⟩, hle⟩
        have := (a4 i hi).2.2
        show -9 ≤ upZ _ _ _ i ∧ upZ _ _ _ i ≤ 9
        unfold upZ
        split
        · rename_i e; rw [← e]; omega
        · exact this
      · split
        · refine ⟨⟨a1, a2, a3, fun i hi => ⟨(a4 i hi).1, (a4 i hi).2.1, ?_⟩, hyr'⟩, hle⟩
          have := (a4 i hi).2.2
          show -9 ≤ upZ _ _ _ i ∧ upZ _ _ _ i ≤ 9
          unfold upZ
          split
          · rename_i e; rw [← e]; omega
          · exact this
        · split
          · refine ⟨⟨a1, a2, a3, fun i hi => ⟨?_, (a4 i hi).2⟩, hyr'⟩, fun i hi => ?_⟩
            · have q1 := (a4 i hi).1
              have q2 := h2 i hi
              have q3 := (hK.2.1 i hi).2.2.2
              show 0 ≤ upZ _ _ _ i ∧ upZ _ _ _ i ≤ 6000
              unfold upZ
              split
              · rename_i e; rw [← e]; omega
              · omega
            · have q2 := h2 i hi
              have q3 := (hK.2.1 i hi).2.2.2
              show upZ _ _ _ i ≤ _
              unfold upZ
              split
              · rename_i e; rw [← e]; omega
              · omega
          · exact ⟨hsame, hle⟩
theorem c_124 {m : Nat} (hG : Geo G SL p q) (hm : 0 < m) (hm2 : m ≤ 10) (hQ : Q (.inl (some (.int (zI ((drN (sdZ (F 49 8)) % m : Nat) : Int))))) (wF F 49 8 (sdZ (F 49 8)), A, J, G)) : X d 124 0 [.ref 49, .int (zI (m : Int))] [] (F, A, J, G) Q := by
  refine t_124_0 hG ⟨fun _ => ⟨?_, ?_⟩, fun e => ?_⟩
  · rw [zI_eq0 (by omega)]; omega
  · have hd := drN_lt (sdZ (F 49 8))
    show Q (.inl (some (.int (jrem ((jushr (sdZ (F 49 8)) 16) &&& 32767) (zI (m : Int)))))) _
    rw [dr_z, rem_z hd hm hm2]
    exact hQ
  · exact absurd (show (0 : Int32) < zI (m : Int) by rw [show (0 : Int32) = zI ((0 : Nat) : Int) from rfl, zN_lt (by omega) (by omega)]; omega) e
theorem m_283 {m : Nat} (hG : Geo G SL p q) (hm : 0 < m) (hm2 : m ≤ 10) (hQ : Q (.inl (some (.int (zI ((drN (sdZ (F 68 49)) % m : Nat) : Int))))) (wF F 68 49 (sdZ (F 68 49)), A, J, G)) : X d 283 0 [.ref 68, .int (zI (m : Int))] [] (F, A, J, G) Q := by
  refine t_283_0 hG ⟨?_, ?_⟩
  · rw [zI_eq0 (by omega)]; omega
  · have hd := drN_lt (sdZ (F 68 49))
    show Q (.inl (some (.int (jrem (((sdZ (F 68 49)) >>> ((16 : Int32) &&& 31)) &&& 32767) (zI (m : Int)))))) _
    rw [sh16, dr_z, rem_z hd hm hm2]
    exact hQ
/-- the trial tower lives a year -/
theorem c_123 (hG : Geo G SL p q) (hT : CTn F A K n) (hW : CTw 53 F A n h ord ml wd ln yr) (hs : F 49 8 = s) (hml : ∀ i, i < n → ml i ≤ 5000) (hyr : yr ≤ 1100) (hok : TwOk n h ord (dcZ K n h ord (s, ml, ln)).2.1 wd (dcZ K n h ord (s, ml, ln)).2.2 (yr + 1)) (hQ : ∀ F' A', (∀ i, i ≠ 49 → i ≠ 53 → F' i = F i) → (∀ k, k ≠ 8 → F' 49 k = F 49 k) → F' 49 8 = (dcZ K n h ord (s, ml, ln)).1 → (∀ i, (i < 53 ∨ 60 < i) → A' i = A i) → CTw 53 F' A' n h ord (dcZ K n h ord (s, ml, ln)).2.1 wd (dcZ K n h ord (s, ml, ln)).2.2 (yr + 1) → Q (.inl none) (F', A', J, G)) : X (d + 1) 123 0 [.ref 49, .null, .null] [] (F, A, J, G) Q := by
  have h10' := hT.1.1
  have hh := hW.1.1
  have hy := hW.1.2.2.2.2
  have hW1 := CTw_yr (v := yr + 1) (by omega) hW
  have hF1 : ∀ i, i ≠ 53 → wF F 53 2 (zI (yr + 1)) i = F i := fun i hi => wF_row hi
  refine t_123_0 hG ?_
  rw [hT.2.1, hW.2.2.1, zZ_1, zI_eq0 (by omega)]
  unfold dcZ at hQ hok
  refine ⟨fun e => ?_, fun e => ?_⟩
  · rw [if_pos (show n = 0 by omega)] at hQ
    exact hQ _ _ (fun i h1 h2 => hF1 i h2) (fun k hk => by rw [hF1 49 (by decide)]) (by rw [hF1 49 (by decide)]; exact hs) (fun _ _ => rfl) hW1
  · have hn0 : ¬ n = 0 := by omega
    rw [if_neg hn0] at hQ hok
    have hs1 : wF F 53 2 (zI (yr + 1)) 49 8 = s := by rw [hF1 49 (by decide)]; exact hs
    refine c_124 hG (by omega) h10' (k_123_35 hG (c_124 (m := 5) hG (by decide) (by decide) (k_123_41 hG ?_)))
    rw [wF_same, hs1, wF_wF]
    have htt : drN (sdZ s) % n < n := Nat.mod_lt _ (by omega)
    have hw5 : drN (sdZ (sdZ s)) % 5 < 5 := Nat.mod_lt _ (by decide)
    dsimp only at hQ hok
    generalize drN (sdZ s) % n = tt at hQ hok htt
    generalize drN (sdZ (sdZ s)) % 5 = w5 at hQ hok hw5
    have hF2 : ∀ i, i ≠ 49 → wF (wF F 53 2 (zI (yr + 1))) 49 8 (sdZ (sdZ s)) i = wF F 53 2 (zI (yr + 1)) i := fun i hi => wF_row hi
    have hW2 : CTw 53 (wF (wF F 53 2 (zI (yr + 1))) 49 8 (sdZ (sdZ s))) A n h ord ml wd ln (yr + 1) := by
      unfold CTw at hW1 ⊢
      rw [hF2 53 (by decide)]; exact hW1
    have g1 : ∀ i, i ≠ 49 → i ≠ 53 → wF (wF F 53 2 (zI (yr + 1))) 49 8 (sdZ (sdZ s)) i = F i := fun i h1 h2 => by rw [hF2 i h1]; exact hF1 i h2
    have g2 : ∀ k, k ≠ 8 → wF (wF F 53 2 (zI (yr + 1))) 49 8 (sdZ (sdZ s)) 49 k = F 49 k := fun k hk => by rw [wF_cell hk, hF1 49 (by decide)]
    have g3 : wF (wF F 53 2 (zI (yr + 1))) 49 8 (sdZ (sdZ s)) 49 8 = sdZ (sdZ s) := wF_same _ _ _ _
    generalize wF (wF F 53 2 (zI (yr + 1))) 49 8 (sdZ (sdZ s)) = F2 at hW2 g1 g2 g3 hF2
    have a57 : A 57 tt = zI (ln tt) := hW2.2.2.2.2.2.2 _ htt
    have a55 : A 55 tt = zI (ml tt) := hW2.2.2.2.2.1 _ htt
    have hlt := (hW.1.2.2.2.1 _ htt).2.2
    have hmt := (hW.1.2.2.2.1 _ htt).1
    have hm5 := hml _ htt
    have hk3 := (hT.1.2.1 _ htt).2.2.2
    have hlb := lvZ_b (ord := ord) (h := h) (z := (tt : Int))
    have hln := lvZ_none (ord := ord) (h := h) (i := tt)
    have b54 : ∀ l, l < h → A 54 l = zI (ord l : Int) := hW2.2.2.2.1
    rw [zI_clamp (n := tt) (by omega), a57, a55, hT.2.2.2.2.2.2.2 _ htt, zZ_1, zZ_s1, zI_add, hW2.2.1, lv_z (by omega) (by omega) (by omega) b54 (fun l hl => by have := hW.1.2.1 l hl; omega), zI_eqm (by omega), hln, show (2 : Int32) = zI 2 from rfl, zI_eq0 (by omega), zI_eq1 (by omega), zI_eq (by omega) (by omega) (by omega) (by omega), show (9 : Int32) = zI 9 from rfl, show (-zI 9) = zI (-9) from rfl, zI_jmin (by omega) (by omega) (by omega) (by omega), zI_jmax (by omega) (by omega) (by omega) (by omega)]
    refine ⟨fun e1 => ⟨zN_in (by omega) (by decide), ?_⟩, fun e1 => ⟨fun e2 => ⟨zN_in (by omega) (by decide), ?_⟩, fun e2 => ⟨fun e3 => ⟨hB_z (by omega), fun e4 => ?_, fun e4 => ⟨zN_in (by omega) (by decide), ?_⟩⟩, fun e3 => ?_⟩⟩⟩
    · rw [if_pos (by omega)] at hQ
      exact hQ _ _ g1 g2 g3 (fun i hi => wF_row (by omega)) (CTw_lean (by omega) hW2)
    · rw [if_neg (by omega), if_pos (by omega)] at hQ
      exact hQ _ _ g1 g2 g3 (fun i hi => wF_row (by omega)) (CTw_lean (by omega) hW2)
    · rw [if_neg (by omega), if_neg (by omega), if_neg (fun q => by rw [e4] at q; exact absurd q.2 (by decide))] at hQ
      exact hQ _ _ g1 g2 g3 (fun _ _ => rfl) hW2
    · rw [if_neg (by omega), if_neg (by omega), if_pos ⟨by omega, by simpa using e4⟩] at hQ
      exact hQ _ _ g1 g2 g3 (fun i hi => wF_row (by omega)) (CTw_meal (by omega) hW2)
    · rw [if_neg (by omega), if_neg (by omega), if_neg (fun q => by omega)] at hQ
      exact hQ _ _ g1 g2 g3 (fun _ _ => rfl) hW2
theorem c_122 {m : Nat} (hG : Geo G SL p q) (hT : CTn F A K n) (hW : CTw 27 F A n h ord ml wd ln yr) (hml : ∀ i, i < n → ml i ≤ 999) (hyr : yr ≤ 999) (hm : m ≤ 40) (hQ : ∀ F' A', CScr F A F' A' → F' 49 5 = zI (dsZ K n h ord ml wd ln yr s m).1 → F' 49 6 = zI (dsZ K n h ord ml wd ln yr s m).2 → F' 49 7 = zI (if h = 0 then 0 else loadZ K h ord (dyZ K n h ord ml ln s m).2.1 0) → Q (.inl none) (F', A', J, G)) : X (d + 5) 122 0 [.ref 49, .int s, .int (zI (m : Int)), .null] [] (F, A, J, G) Q := by
  have h10' := hT.1.1
  have h10 : h ≤ 10 := Nat.le_trans hW.1.1 hT.1.1
  have hy0 := hW.1.2.2.2.2
  refine t_122_0 hG ?_
  have hs0 : CScr F A (wF (wF (wF F 49 8 s) 49 5 0) 49 6 (-1)) A := ⟨fun i _ h1 => by rw [wF_row (by omega), wF_row (by omega), wF_row (by omega)], by rw [wF_row (by decide), wF_row (by decide), wF_row (by decide)], fun _ _ _ _ => rfl⟩
  have k8 : bF (wF (wF (wF F 49 8 s) 49 5 0) 49 6 (-1)) 53 27 49 8 = s := by rw [bF_at, if_neg (by decide), wF_cell (by decide), wF_cell (by decide), wF_same]
  have k5 : bF (wF (wF (wF F 49 8 s) 49 5 0) 49 6 (-1)) 53 27 49 5 = 0 := by rw [bF_at, if_neg (by decide), wF_cell (by decide), wF_same]
  have k6 : bF (wF (wF (wF F 49 8 s) 49 5 0) 49 6 (-1)) 53 27 49 6 = -1 := by rw [bF_at, if_neg (by decide), wF_same]
  have hs1 := hs0.tr bec_scr
  have hW1 := bec_tw h10' (CTw_scr hs0 hW)
  have := up_ind (h := m) (P := fun k => ∀ F1 A1, CScr F A F1 A1 → CTw 53 F1 A1 n h ord (dyZ K n h ord ml ln s k).2.1 wd (dyZ K n h ord ml ln s k).2.2 (yr + k) → F1 49 8 = (dyZ K n h ord ml ln s k).1 → F1 49 5 = zI (dsZ K n h ord ml wd ln yr s k).1 → F1 49 6 = zI (dsZ K n h ord ml wd ln yr s k).2 → X (d + 5) 122 28 [.ref 49, .int s, .int (zI (m : Int)), .int (zI ((k + 1 : Nat) : Int))] [] (F1, A1, J, G) Q) ?_ ?_ _ _ hs1 (by rw [show yr + ((0 : Nat) : Int) = yr by omega]; exact hW1) k8 (by rw [k5]; rfl) (by rw [k6]; rfl)
  · exact this
  · intro F1 A1 hs hW3 h8 h5 h6
    refine t_122_28 hG ⟨fun _ => c_84 hG tw53 (CTn_scr hs hT) hW3 (fun A2 hf2 hg2 => k_122_86 hG ?_), fun e => ?_⟩
    · rw [hW3.2.1, zI_eq0 (by omega)]
      have hs2 : ∀ v, CScr F A (wF F1 49 7 v) A2 := fun v => (hs.tr (FrT_scr53 hf2)).tr ⟨fun i _ h1 => wF_row (by omega), by rw [wF_row (by decide)], fun _ _ _ _ => rfl⟩
      refine ⟨fun e => hQ _ _ (hs2 _) (by rw [wF_cell (by decide)]; exact h5) (by rw [wF_cell (by decide)]; exact h6) (by rw [wF_same, if_pos (by omega)]; rfl), fun e => hQ _ _ (hs2 _) (by rw [wF_cell (by decide)]; exact h5) (by rw [wF_cell (by decide)]; exact h6) ?_⟩
      have a58 : A2 58 0 = zI (loadZ K h ord (dyZ K n h ord ml ln s m).2.1 0) := hg2.1 0 (by omega)
      rw [wF_same, if_neg (by omega), a58]
    · rw [zN_lt (by omega) (by omega)] at e
      omega
  · intro k hk ih F1 A1 hs hW3 h8 h5 h6
    have hb := ds_b (K := K) (n := n) (h := h) (ord := ord) (ml := ml) (wd := wd) (ln := ln) (yr := yr) (s := s) k
    have hd := dy_ok (s := s) hT.1 hW.1 hml hyr k (by omega)
    have hd1 := dy_ok (s := s) hT.1 hW.1 hml hyr (k + 1) (by omega)
    have hok : TwOk n h ord (dcZ K n h ord ((dyZ K n h ord ml ln s k).1, (dyZ K n h ord ml ln s k).2.1, (dyZ K n h ord ml ln s k).2.2)).2.1 wd (dcZ K n h ord ((dyZ K n h ord ml ln s k).1, (dyZ K n h ord ml ln s k).2.1, (dyZ K n h ord ml ln s k).2.2)).2.2 (yr + k + 1) := by
      have := hd1.1
      rw [show yr + ((k + 1 : Nat) : Int) = yr + k + 1 by omega] at this
      exact this
    refine t_122_28 hG ⟨fun e => ?_, fun _ => c_123 hG (CTn_scr hs hT) hW3 h8 (fun i hi => by have := hd.2 i hi; omega) (by omega) hok (fun F2 A2 e1 e2 e3 e4 hW4 => k_122_37 hG ?_)⟩
    · rw [zN_lt (by omega) (by omega)] at e
      omega
    · have hs2 : CScr F A F2 A2 := hs.tr ⟨fun i _ h1 => e1 i (by omega) (by omega), by rw [e1 18 (by decide) (by decide)], fun i _ _ h3 => e4 i (by omega)⟩
      have hW4' : CTw 53 F2 A2 n h ord (dyZ K n h ord ml ln s (k + 1)).2.1 wd (dyZ K n h ord ml ln s (k + 1)).2.2 (yr + ((k + 1 : Nat) : Int)) := by
        rw [show yr + ((k + 1 : Nat) : Int) = yr + k + 1 by omega]
        exact hW4
      have e3' : F2 49 8 = (dyZ K n h ord ml ln s (k + 1)).1 := e3
      refine c_88 hG tw53 (CTn_scr hs2 hT) hW4' (fun A3 hf3 hg3 => k_122_44 hG ?_)
      have hs3 := hs2.tr (FrT_scr53 (F := F2) hf3)
      have hW5 := CTw_frT hf3 hW4'
      have h5' : F2 49 5 = zI (dsZ K n h ord ml wd ln yr s k).1 := by rw [e2 5 (by decide)]; exact h5
      have h6' : F2 49 6 = zI (dsZ K n h ord ml wd ln yr s k).2 := by rw [e2 6 (by decide)]; exact h6
      have hF5 : ∀ k' v, CScr F A (wF F2 49 k' v) A3 := fun k' v => hs3.tr ⟨fun i _ h1 => wF_row (by omega), by rw [wF_row (by decide)], fun _ _ _ _ => rfl⟩
      have hW6 : ∀ k' v, CTw 53 (wF F2 49 k' v) A3 n h ord (dyZ K n h ord ml ln s (k + 1)).2.1 wd (dyZ K n h ord ml ln s (k + 1)).2.2 (yr + ((k + 1 : Nat) : Int)) := fun k' v => by
        unfold CTw at hW5 ⊢
        rw [wF_row (by decide)]; exact hW5
      rw [h6', h5', zN_1, zZ_1, zI_eqm (by omega)]
      have ihs := ih
      rw [dsZ] at ihs
      refine ⟨fun e => ?_, fun e => ?_⟩
      · have hf : stdB K h ord (dyZ K n h ord ml ln s (k + 1)).2.1 wd (dyZ K n h ord ml ln s (k + 1)).2.2 (yr + ((k + 1 : Nat) : Int)) = false := by
          cases hb : stdB K h ord (dyZ K n h ord ml ln s (k + 1)).2.1 wd (dyZ K n h ord ml ln s (k + 1)).2.2 (yr + ((k + 1 : Nat) : Int))
          · rfl
          · rw [hb] at e; exact absurd e (by decide)
        rw [hf, if_neg (by decide)] at ihs
        refine ⟨fun e2' => ?_, fun e2' => ?_⟩
        · rw [if_pos e2'] at ihs
          exact ihs _ _ (hF5 6 _) (hW6 6 _) (by rw [wF_cell (by decide)]; exact e3') (by rw [wF_cell (by decide)]; exact h5') (by rw [wF_same])
        · rw [if_neg e2'] at ihs
          exact ihs _ _ hs3 hW5 e3' h5' h6'
      · have hf : stdB K h ord (dyZ K n h ord ml ln s (k + 1)).2.1 wd (dyZ K n h ord ml ln s (k + 1)).2.2 (yr + ((k + 1 : Nat) : Int)) = true := by
          cases hb : stdB K h ord (dyZ K n h ord ml ln s (k + 1)).2.1 wd (dyZ K n h ord ml ln s (k + 1)).2.2 (yr + ((k + 1 : Nat) : Int))
          · rw [hb] at e; exact absurd rfl e
          · rfl
        rw [hf, if_pos rfl] at ihs
        exact ihs _ _ (hF5 5 _) (hW6 5 _) (by rw [wF_cell (by decide)]; exact e3') (by rw [wF_same]) (by rw [wF_cell (by decide)]; exact h6')
end YearsZ
