/-! the reference keeps an image, and takes it back -/
section ImageB
def MBs (F A : Nat → Nat → Int32) (n k : Nat) (hs : Nat → Sn) (s : Nat) (sl : Nat → Nat) (st : Nat → Int) (u : Nat → Int32) : Prop := F 68 31 = zI (k : Int) ∧ MHs (A 85) n k hs ∧ MSt F A n (hs k) ∧ MSn F A s sl st ∧ (∀ j, j < 3 → A 79 j = u j)
def MIm (F A : Nat → Nat → Int32) (n k : Nat) (hs : Nat → Sn) (s : Nat) (sl : Nat → Nat) (st : Nat → Int) (u : Nat → Int32) : Prop := F 68 51 = zI (k : Int) ∧ MHs (A 100) n k hs ∧ MHr (A 99) 0 n (hs k) ∧ SnOk s sl st ∧ F 68 52 = zI (s : Int) ∧ (∀ k, k < s → A 101 k = zI (sl k : Int)) ∧ (∀ k, k < s → A 102 k = zI (st k)) ∧ (∀ j, j < 3 → A 103 j = u j)
variable {d : Nat} {F A F' A' : Nat → Nat → Int32} {J : Nat → Nat → Int64} {G : pG} {Q : pR → pM → Prop} {SL p q n k i j a b na nb s : Nat} {hs : Nat → Sn} {sl : Nat → Nat} {st : Nat → Int} {u : Nat → Int32} {row row' : Nat → Int32}
theorem m_286 (hG : Geo G SL p q) (hka : gK G a = 20) (hla : gL G a = na) (hkb : gK G b = 20) (hlb : gL G b = nb) (hle : na ≤ nb) (hn : nb < 5000) (hab : b ≠ a) (hQ : ∀ A', (∀ i, i ≠ a → A' i = A i) → (∀ c, c < na → A' a c = A b c) → Q (.inl none) (F, A', J, G)) : X d 286 0 [.ref a, .ref b, .null] [] (F, A, J, G) Q := by
  refine t_286_0 hG hka hla hkb hlb ?_
  refine up_ind (h := na) (P := fun x => ∀ A1, (∀ i, i ≠ a → A1 i = A i) → (∀ c, c < x → A1 a c = A b c) → X d 286 2 [.ref a, .ref b, .int (zI (x : Int))] [] (F, A1, J, G) Q) ?_ ?_ A (fun _ _ => rfl) (fun c hc => by omega)
  · intro A1 g1 g2
    refine t_286_2 hG hka hla hkb hlb ⟨fun e => ?_, fun _ => hQ A1 g1 g2⟩
    rw [zI_nI, zN_lt (by omega) (by omega)] at e
    omega
  · intro x hx ih A1 g1 g2
    refine t_286_2 hG hka hla hkb hlb ⟨fun _ => ?_, fun e => ?_⟩
    · rw [zN_1, zI_clamp (by omega)]
      refine ⟨zN_in (by omega) (by omega), zN_in (by omega) (by omega), ih _ (fun i hi => ?_) (fun c hc => ?_)⟩
      · rw [wF_row hi]; exact g1 i hi
      · rw [wF_at]
        by_cases e : c = x
        · rw [if_pos ⟨rfl, e⟩, g1 b hab, e]
        · rw [if_neg (fun q => e q.2)]; exact g2 c (by omega)
    · rw [zI_nI, zN_lt (by omega) (by omega)] at e
      omega
theorem MHs_cong (h10 : n ≤ 10) (hc : ∀ c, c < 1720 → row' c = row c) (hm : MHs row n k hs) : MHs row' n k hs := by
  obtain ⟨h1, h3, h4⟩ := hm
  exact ⟨h1, h3, fun j hj => MHr_cong h10 (Nat.le_trans (h3 j (by omega)).1.1 h10) (fun c hc' => hc _ (by omega)) (h4 j hj)⟩
theorem m_287 (hG : Geo G SL p q) (h10 : n ≤ 10) (hB : MBs F A n k hs s sl st u) (hQ : ∀ F' A', (∀ i, i ≠ 68 → F' i = F i) → (∀ c, c ≠ 3 → (c < 50 ∨ 52 < c) → F' 68 c = F 68 c) → F' 68 3 = 0 → F' 68 50 = 1 → (∀ i, (i < 99 ∨ 103 < i) → A' i = A i) → MIm F' A' n k hs s sl st u → Q (.inl none) (F', A', J, G)) : X (d + 1) 287 0 [.ref 68] [] (F, A, J, G) Q := by
  obtain ⟨f31, hH, hS, ⟨s0, s1, s2, s3⟩, s4⟩ := hB
  have h8 := s0.1
  have hS1 : MSt (wF (wF (wF (wF F 68 3 0) 68 50 1) 68 51 (F 68 31)) 68 52 (F 68 32)) A n (hs k) := by
    unfold MSt MTw at hS ⊢
    rw [wF_cell (by decide), wF_cell (by decide), wF_cell (by decide), wF_cell (by decide), wF_cell (by decide), wF_cell (by decide), wF_cell (by decide), wF_cell (by decide), wF_cell (by decide), wF_cell (by decide), wF_cell (by decide), wF_cell (by decide)]
    exact hS
  refine t_287_0 hG (m_207 hG (k_99 hG) (l_99 hG) (by decide) (b := 0) (by decide) (by decide) (fun A1 p1 p2 p3 => k_287_35 hG (m_286 hG (k_100 hG) (l_100 hG) (k_85 hG) (l_85 hG) (by decide) (by decide) (by decide) (fun A2 a1 a2 => k_287_46 hG (m_286 hG (k_101 hG) (l_101 hG) (k_94 hG) (l_94 hG) (by decide) (by decide) (by decide) (fun A3 b1 b2 => k_287_57 hG (m_286 hG (k_102 hG) (l_102 hG) (k_95 hG) (l_95 hG) (by decide) (by decide) (by decide) (fun A4 c1 c2 => k_287_68 hG (m_286 hG (k_103 hG) (l_103 hG) (k_79 hG) (l_79 hG) (by decide) (by decide) (by decide) (fun A5 d1 d2 => k_287_79 hG ?_))))))))))
  have hp : MHr (A1 99) 0 n (hs k) := by
    obtain ⟨⟨hw, f1, f2, b0, b1, b2, b3⟩, f3⟩ := hS1
    have hn := hw.1
    obtain ⟨g1, g2, g3, g4⟩ := p3
    exact ⟨g1.trans f1, g2.trans f2, g3.trans f3, fun l hl => (g4 l (by omega)).1.trans (b0 l hl), fun i hi => ⟨(g4 i (by omega)).2.1.trans (b1 i hi), (g4 i (by omega)).2.2.1.trans (b2 i hi), (g4 i (by omega)).2.2.2.trans (b3 i hi)⟩⟩
  refine hQ _ _ (fun i hi => ?_) (fun c c1 c2 => ?_) ?_ ?_ (fun i hi => ?_) ⟨?_, ?_, ?_, s0, ?_, fun c hc => ?_, fun c hc => ?_, fun c hc => ?_⟩
  · rw [wF_row hi, wF_row hi, wF_row hi, wF_row hi]
  · rw [wF_cell (by omega), wF_cell (by omega), wF_cell (by omega), wF_cell c1]
  · rw [wF_cell (by decide), wF_cell (by decide), wF_cell (by decide), wF_same]
  · rw [wF_cell (by decide), wF_cell (by decide), wF_same]
  · rw [d1 i (by omega), c1 i (by omega), b1 i (by omega), a1 i (by omega), p1 i (by omega)]
  · rw [wF_cell (by decide), wF_same]; exact f31
  · rw [d1 100 (by decide), c1 100 (by decide), b1 100 (by decide)]
    exact MHs_cong h10 (fun c hc => by rw [a2 c hc, p1 85 (by decide)]) hH
  · rw [d1 99 (by decide), c1 99 (by decide), b1 99 (by decide), a1 99 (by decide)]
    exact hp
  · rw [wF_same]; exact s1
  · rw [d1 101 (by decide), c1 101 (by decide), b2 c (by omega), a1 94 (by decide), p1 94 (by decide)]; exact s2 c hc
  · rw [d1 102 (by decide), c2 c (by omega), b1 95 (by decide), a1 95 (by decide), p1 95 (by decide)]; exact s3 c hc
  · rw [d2 c hc, c1 79 (by decide), b1 79 (by decide), a1 79 (by decide), p1 79 (by decide)]; exact s4 c hc
theorem m_288z (hG : Geo G SL p q) (f50 : F 68 50 = 0) (hQ : Q (.inl (some (.int 0))) (wF F 68 3 0, A, J, G)) : X (d + 1) 288 0 [.ref 68] [] (F, A, J, G) Q :=
  t_288_0 hG ⟨fun _ => hQ, fun e => absurd f50 e⟩
theorem m_288 (hG : Geo G SL p q) (h10 : n ≤ 10) (f50 : F 68 50 = 1) (hI : MIm F A n k hs s sl st u) (hQ : ∀ F' A', (∀ i, i ≠ 68 → F' i = F i) → (∀ c, c ≠ 3 → (c < 28 ∨ 32 < c) → F' 68 c = F 68 c) → F' 68 3 = 0 → (∀ i, i ≠ 79 → (i < 81 ∨ 85 < i) → i ≠ 94 → i ≠ 95 → A' i = A i) → MBs F' A' n k hs s sl st u → Q (.inl (some (.int 1))) (F', A', J, G)) : X (d + 1) 288 0 [.ref 68] [] (F, A, J, G) Q := by
  obtain ⟨f51, hH, hr, s0, s1, s2, s3, s4⟩ := hI
  have h8 := s0.1
  have hk := hH.2.1 k (Nat.le_refl _)
  have hn := hk.1.1
  refine t_288_0 hG ⟨fun e => absurd (f50.symm.trans e) (by decide), fun _ => ?_⟩
  refine m_208 hG (k_99 hG) (l_99 hG) (by decide) (b := 0) (by decide) (by decide) (fun A1 p1 p2 => k_288_39 hG (m_286 hG (k_85 hG) (l_85 hG) (k_100 hG) (l_100 hG) (by decide) (by decide) (by decide) (fun A2 a1 a2 => k_288_50 hG (m_286 hG (k_94 hG) (l_94 hG) (k_101 hG) (l_101 hG) (by decide) (by decide) (by decide) (fun A3 b1 b2 => k_288_61 hG (m_286 hG (k_95 hG) (l_95 hG) (k_102 hG) (l_102 hG) (by decide) (by decide) (by decide) (fun A4 c1 c2 => k_288_72 hG (m_286 hG (k_79 hG) (l_79 hG) (k_103 hG) (l_103 hG) (by decide) (by decide) (by decide) (fun A5 d1 d2 => k_288_83 hG ?_)))))))))
  obtain ⟨g1, g2, g3, g4, g5⟩ := hr
  have tw : ∀ i, 81 ≤ i → i ≤ 84 → A5 i = A1 i := fun i i1 i2 => by rw [d1 i (by omega), c1 i (by omega), b1 i (by omega), a1 i (by omega)]
  refine hQ _ _ (fun i hi => ?_) (fun c c1 c2 => ?_) ?_ (fun i i1 i2 i3 i4 => ?_) ⟨?_, ?_, MSt_of hk (SEq.rf _) ?_ ?_ ?_ (fun l hl => ?_) (fun i hi => ?_) (fun i hi => ?_) (fun i hi => ?_), ⟨s0, ?_, fun c hc => ?_, fun c hc => ?_⟩, fun c hc => ?_⟩
  · unfold UnF
    rw [wF_row hi, wF_row hi, wF_row hi, wF_row hi, wF_row hi, wF_row hi]
  · unfold UnF
    rw [wF_cell (by omega), wF_cell (by omega), wF_cell (by omega), wF_cell (by omega), wF_cell (by omega), wF_cell c1]
  · unfold UnF
    rw [wF_cell (by decide), wF_cell (by decide), wF_cell (by decide), wF_cell (by decide), wF_cell (by decide), wF_same]
  · rw [d1 i i1, c1 i i4, b1 i i3, a1 i (by omega), p1 i (by omega)]
  · unfold UnF
    rw [wF_cell (by decide), wF_cell (by decide), wF_cell (by decide), wF_cell (by decide), wF_same]; exact f51
  · rw [d1 85 (by decide), c1 85 (by decide), b1 85 (by decide)]
    exact MHs_cong h10 (fun c hc => by rw [a2 c hc, p1 100 (by decide)]) hH
  · unfold UnF
    rw [wF_cell (by decide), wF_cell (by decide), wF_same]; exact g1
  · unfold UnF
    rw [wF_cell (by decide), wF_same]; exact g2
  · unfold UnF
    rw [wF_same]; exact g3
  · rw [tw 81 (by decide) (by decide), (p2 l (by omega)).1]; exact g4 l hl
  · rw [tw 82 (by decide) (by decide), (p2 i (by omega)).2.1]; exact (g5 i hi).1
  · rw [tw 83 (by decide) (by decide), (p2 i (by omega)).2.2.1]; exact (g5 i hi).2.1
  · rw [tw 84 (by decide) (by decide), (p2 i (by omega)).2.2.2]; exact (g5 i hi).2.2
  · unfold UnF
    rw [wF_cell (by decide), wF_cell (by decide), wF_cell (by decide), wF_same]; exact s1
  · rw [d1 94 (by decide), c1 94 (by decide), b2 c (by omega), a1 101 (by decide), p1 101 (by decide)]; exact s2 c hc
  · rw [d1 95 (by decide), c2 c (by omega), b1 102 (by decide), a1 102 (by decide), p1 102 (by decide)]; exact s3 c hc
  · rw [d2 c hc, c1 103 (by decide), b1 103 (by decide), a1 103 (by decide), p1 103 (by decide)]; exact s4 c hc
end ImageB
