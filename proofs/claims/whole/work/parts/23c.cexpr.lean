/-! the class's reader: expressions -/
section ReadCE
/-- a method of the reader does as the parser P -/
def CC (F0 A0 : Nat → Nat → Int32) (tp : Nat → Int32) (N : Nat) (J : Nat → Nat → Int64) (G : pG) (d mid : Nat) (L : List Value) (P : Nat → List Int → RdR) : Prop := ∀ F A s c Q, CR F0 A0 tp N F A s c → (∀ F' A' s' c', P s c = .inr (s', c') → CR F0 A0 tp N F' A' s' c' → Q (.inl (some (.int 1))) (F', A', J, G)) → (∀ F' A' e, P s c = .inl e → CE F0 A0 F' A' e → Q (.inl (some (.int 0))) (F', A', J, G)) → X d mid 0 L [] (F, A, J, G) Q
variable {d : Nat} {F A F0 A0 F' A' : Nat → Nat → Int32} {J : Nat → Nat → Int64} {G : pG} {Q : pR → pM → Prop} {SL p q : Nat} {tp : Nat → Int32} {N s i j e w k : Nat} {c : List Int} {P E : Nat → List Int → RdR} {x1 : Int32}
theorem ne10 : ¬ (1 : Int32) = 0 := by decide
theorem pr_room (hP : PrOk N k P) (hC : CR F0 A0 tp N F A s c) (hs : s < N) {s' : Nat} {c' : List Int} (h : P (nxS tp N s) c = .inr (s', c')) : c'.length < s' := by
  obtain ⟨a1, a2, v, a3, a4, a5⟩ := hP _ _ _ _ h (nx_le (Nat.le_of_lt hs))
  have := nx_gt (tp := tp) hs
  have h2 := hC.2.1.2.2.2.2
  rw [a3, List.length_append]
  omega
theorem cc_41 (hG : Geo G SL p q) (hP : PrOk N k P) (h42 : CC F0 A0 tp N J G (d + 1) 42 [.ref 11, .int x1, .null] P) : CC F0 A0 tp N J G (d + 2) 41 [.ref 11, .int x1, .null, .null] (bnS (opS2 tp N 42 47 (-10) (-11)) (nxS tp N) P) := by
  intro F A s c Q hC h1 h0
  refine t_41_0 hG (h42 F A s c _ hC (fun F' A' s' c' hp hC' => k_41_5 hG ⟨fun e => absurd e ne10, fun _ => ?_⟩) (fun F' A' e hp hE => k_41_5 hG ⟨fun _ => h0 F' A' e (by unfold bnS; rw [hp]) hE, fun e => absurd rfl e⟩))
  have L : ∀ f F A s c v3, f ≤ 600 → CR F0 A0 tp N F A s c → (∀ F' A' s' c', lpS (opS2 tp N 42 47 (-10) (-11)) (nxS tp N) P f s c = .inr (s', c') → CR F0 A0 tp N F' A' s' c' → Q (.inl (some (.int 1))) (F', A', J, G)) → (∀ F' A' e, lpS (opS2 tp N 42 47 (-10) (-11)) (nxS tp N) P f s c = .inl e → CE F0 A0 F' A' e → Q (.inl (some (.int 0))) (F', A', J, G)) → X (d + 2) 41 12 [.ref 11, .int x1, .int (zI ((600 - f : Nat) : Int)), v3] [] (F, A, J, G) Q := by
    intro f
    induction f with
    | zero =>
      intro F A s c v3 hf hC h1 h0
      exact t_41_12 hG ⟨fun e => absurd e (by decide), fun _ => h1 F A s c rfl hC⟩
    | succ f ih =>
      intro F A s c v3 hf hC h1 h0
      have hlt : zI ((600 - (f + 1) : Nat) : Int) < 600 := by
        rw [show (600 : Int32) = zI ((600 : Nat) : Int) from rfl, zN_lt (by omega) (by omega)]; omega
      have body : ∀ (z : Int) (x : Int32), x = zI z → opS2 tp N 42 47 (-10) (-11) s = some z → X (d + 1) 49 0 [.ref 11] [] (F, A, J, G) (KK (d + 2) 41 58 [.ref 11, .int x1, .int (zI ((600 - (f + 1) : Nat) : Int)), .int x] [] Q) := by
        intro z x hx ho
        have hs : s < N := (op2_ok (by decide) (by decide) s z ho).1
        have hun : lpS (opS2 tp N 42 47 (-10) (-11)) (nxS tp N) P (f + 1) s c = match P (nxS tp N s) c with | .inl e => .inl e | .inr q => lpS (opS2 tp N 42 47 (-10) (-11)) (nxS tp N) P f q.1 (q.2 ++ [z]) := by rw [lpS, ho]; rfl
        refine CR_n hG hC (fun F1 hC1 => k_41_58 hG (h42 F1 A _ c _ hC1 (fun F2 A2 s2 c2 hp hC2 => k_41_63 hG ⟨fun e => absurd e ne10, fun _ => ?_⟩) (fun F2 A2 e hp hE => k_41_63 hG ⟨fun _ => h0 F2 A2 e (by rw [hun, hp]) hE, fun e => absurd rfl e⟩)))
        have hroom := pr_room hP hC hs hp
        refine add_if hC2 hroom ?_
        rw [zN_1, show 600 - (f + 1) + 1 = 600 - f by omega]
        exact ih _ _ s2 (c2 ++ [z]) _ (by omega) (CR_a hC2 hx hroom) (fun F' A' s' c' hq hC' => h1 F' A' s' c' (by rw [hun, hp]; exact hq) hC') (fun F' A' e hq hE => h0 F' A' e (by rw [hun, hp]; exact hq) hE)
      refine t_41_12 hG ⟨fun _ => sg2_if hC (x := 42) (y := 47) (by decide) (by decide) (fun ha => body (-10) _ rfl ?_) (fun ha hb => body (-11) _ rfl ?_) (fun ha hb => h1 F A s c ?_ hC), fun e => absurd hlt e⟩
      · unfold opS2; exact if_pos ha
      · unfold opS2; rw [if_neg (by rw [show (42 : Int32) = zI ((42 : Nat) : Int) from rfl, ha]; decide)]; exact if_pos hb
      · have : opS2 tp N 42 47 (-10) (-11) s = none := by
          unfold opS2; rw [if_neg (by rw [show (42 : Int32) = zI ((42 : Nat) : Int) from rfl, ha]; decide), if_neg (by rw [show (47 : Int32) = zI ((47 : Nat) : Int) from rfl, hb]; decide)]
        rw [lpS, this]
  exact L 600 F' A' s' c' .null (Nat.le_refl _) hC' (fun F2 A2 s2 c2 hq hC2 => h1 F2 A2 s2 c2 (by unfold bnS; rw [hp]; exact hq) hC2) (fun F2 A2 e hq hE => h0 F2 A2 e (by unfold bnS; rw [hp]; exact hq) hE)
theorem cc_40 (hG : Geo G SL p q) (hP : PrOk N k P) (h41 : CC F0 A0 tp N J G (d + 1) 41 [.ref 11, .int x1, .null, .null] P) : CC F0 A0 tp N J G (d + 2) 40 [.ref 11, .int x1, .null, .null] (bnS (opS2 tp N 43 45 (-8) (-9)) (nxS tp N) P) := by
  intro F A s c Q hC h1 h0
  refine t_40_0 hG (h41 F A s c _ hC (fun F' A' s' c' hp hC' => k_40_5 hG ⟨fun e => absurd e ne10, fun _ => ?_⟩) (fun F' A' e hp hE => k_40_5 hG ⟨fun _ => h0 F' A' e (by unfold bnS; rw [hp]) hE, fun e => absurd rfl e⟩))
  have L : ∀ f F A s c v3, f ≤ 600 → CR F0 A0 tp N F A s c → (∀ F' A' s' c', lpS (opS2 tp N 43 45 (-8) (-9)) (nxS tp N) P f s c = .inr (s', c') → CR F0 A0 tp N F' A' s' c' → Q (.inl (some (.int 1))) (F', A', J, G)) → (∀ F' A' e, lpS (opS2 tp N 43 45 (-8) (-9)) (nxS tp N) P f s c = .inl e → CE F0 A0 F' A' e → Q (.inl (some (.int 0))) (F', A', J, G)) → X (d + 2) 40 12 [.ref 11, .int x1, .int (zI ((600 - f : Nat) : Int)), v3] [] (F, A, J, G) Q := by
    intro f
    induction f with
    | zero =>
      intro F A s c v3 hf hC h1 h0
      exact t_40_12 hG ⟨fun e => absurd e (by decide), fun _ => h1 F A s c rfl hC⟩
    | succ f ih =>
      intro F A s c v3 hf hC h1 h0
      have hlt : zI ((600 - (f + 1) : Nat) : Int) < 600 := by
        rw [show (600 : Int32) = zI ((600 : Nat) : Int) from rfl, zN_lt (by omega) (by omega)]; omega
      have body : ∀ (z : Int) (x : Int32), x = zI z → opS2 tp N 43 45 (-8) (-9) s = some z → X (d + 1) 49 0 [.ref 11] [] (F, A, J, G) (KK (d + 2) 40 58 [.ref 11, .int x1, .int (zI ((600 - (f + 1) : Nat) : Int)), .int x] [] Q) := by
        intro z x hx ho
        have hs : s < N := (op2_ok (by decide) (by decide) s z ho).1
        have hun : lpS (opS2 tp N 43 45 (-8) (-9)) (nxS tp N) P (f + 1) s c = match P (nxS tp N s) c with | .inl e => .inl e | .inr q => lpS (opS2 tp N 43 45 (-8) (-9)) (nxS tp N) P f q.1 (q.2 ++ [z]) := by rw [lpS, ho]; rfl
        refine CR_n hG hC (fun F1 hC1 => k_40_58 hG (h41 F1 A _ c _ hC1 (fun F2 A2 s2 c2 hp hC2 => k_40_63 hG ⟨fun e => absurd e ne10, fun _ => ?_⟩) (fun F2 A2 e hp hE => k_40_63 hG ⟨fun _ => h0 F2 A2 e (by rw [hun, hp]) hE, fun e => absurd rfl e⟩)))
        have hroom := pr_room hP hC hs hp
        refine add_if hC2 hroom ?_
        rw [zN_1, show 600 - (f + 1) + 1 = 600 - f by omega]
        exact ih _ _ s2 (c2 ++ [z]) _ (by omega) (CR_a hC2 hx hroom) (fun F' A' s' c' hq hC' => h1 F' A' s' c' (by rw [hun, hp]; exact hq) hC') (fun F' A' e hq hE => h0 F' A' e (by rw [hun, hp]; exact hq) hE)
      refine t_40_12 hG ⟨fun _ => sg2_if hC (x := 43) (y := 45) (by decide) (by decide) (fun ha => body (-8) _ rfl ?_) (fun ha hb => body (-9) _ rfl ?_) (fun ha hb => h1 F A s c ?_ hC), fun e => absurd hlt e⟩
      · unfold opS2; exact if_pos ha
      · unfold opS2; rw [if_neg (by rw [show (43 : Int32) = zI ((43 : Nat) : Int) from rfl, ha]; decide)]; exact if_pos hb
      · have : opS2 tp N 43 45 (-8) (-9) s = none := by
          unfold opS2; rw [if_neg (by rw [show (43 : Int32) = zI ((43 : Nat) : Int) from rfl, ha]; decide), if_neg (by rw [show (45 : Int32) = zI ((45 : Nat) : Int) from rfl, hb]; decide)]
        rw [lpS, this]
  exact L 600 F' A' s' c' .null (Nat.le_refl _) hC' (fun F2 A2 s2 c2 hq hC2 => h1 F2 A2 s2 c2 (by unfold bnS; rw [hp]; exact hq) hC2) (fun F2 A2 e hq hE => h0 F2 A2 e (by unfold bnS; rw [hp]; exact hq) hE)
theorem cc_39 (hG : Geo G SL p q) (hP : PrOk N k P) (h40 : CC F0 A0 tp N J G (d + 1) 40 [.ref 11, .int x1, .null, .null] P) : CC F0 A0 tp N J G (d + 2) 39 [.ref 11, .int x1, .null] (onS (opS2 tp N 60 61 (-12) (-13)) (nxS tp N) P) := by
  intro F A s c Q hC h1 h0
  refine t_39_0 hG (h40 F A s c _ hC (fun F1 A1 s1 c1 hp hC1 => k_39_5 hG ⟨fun e => absurd e ne10, fun _ => ?_⟩) (fun F' A' e hp hE => k_39_5 hG ⟨fun _ => h0 F' A' e (by unfold onS; rw [hp]) hE, fun e => absurd rfl e⟩))
  have body : ∀ (z : Int) (x : Int32), x = zI z → opS2 tp N 60 61 (-12) (-13) s1 = some z → X (d + 1) 49 0 [.ref 11] [] (F1, A1, J, G) (KK (d + 2) 39 50 [.ref 11, .int x1, .int x] [] Q) := by
    intro z x hx ho
    have hs : s1 < N := (op2_ok (by decide) (by decide) s1 z ho).1
    have hun : onS (opS2 tp N 60 61 (-12) (-13)) (nxS tp N) P s c = match P (nxS tp N s1) c1 with | .inl e => .inl e | .inr r => .inr (r.1, r.2 ++ [z]) := by
      unfold onS; rw [hp]; dsimp only; rw [ho]; rfl
    refine CR_n hG hC1 (fun F2 hC2 => k_39_50 hG (h40 F2 A1 _ c1 _ hC2 (fun F3 A3 s3 c3 hp3 hC3 => k_39_55 hG ⟨fun e => absurd e ne10, fun _ => ?_⟩) (fun F3 A3 e hp3 hE => k_39_55 hG ⟨fun _ => h0 F3 A3 e (by rw [hun, hp3]) hE, fun e => absurd rfl e⟩)))
    have hroom := pr_room hP hC1 hs hp3
    exact add_if hC3 hroom (h1 _ _ s3 (c3 ++ [z]) (by rw [hun, hp3]) (CR_a hC3 hx hroom))
  have hun0 : ∀ o, opS2 tp N 60 61 (-12) (-13) s1 = o → o = none → onS (opS2 tp N 60 61 (-12) (-13)) (nxS tp N) P s c = .inr (s1, c1) := by
    intro o ho hn
    unfold onS; rw [hp]; dsimp only; rw [ho, hn]
  have b1 : sgB tp N (zI ((60 : Nat) : Int)) s1 = true → X (d + 1) 49 0 [.ref 11] [] (F1, A1, J, G) (KK (d + 2) 39 50 [.ref 11, .int x1, .int (-12)] [] Q) := fun ha => body (-12) _ rfl (by unfold opS2; exact if_pos ha)
  have b2 : sgB tp N (zI ((60 : Nat) : Int)) s1 = false → sgB tp N (zI ((61 : Nat) : Int)) s1 = true → X (d + 1) 49 0 [.ref 11] [] (F1, A1, J, G) (KK (d + 2) 39 50 [.ref 11, .int x1, .int (-13)] [] Q) := fun ha hb => body (-13) _ rfl (by unfold opS2; rw [if_neg (by rw [show (60 : Int32) = zI ((60 : Nat) : Int) from rfl, ha]; decide)]; exact if_pos hb)
  have b3 : sgB tp N (zI ((60 : Nat) : Int)) s1 = false → sgB tp N (zI ((61 : Nat) : Int)) s1 = false → Q (.inl (some (.int 1))) (F1, A1, J, G) := fun ha hb => h1 F1 A1 s1 c1 (hun0 _ rfl (by
    unfold opS2; rw [if_neg (by rw [show (60 : Int32) = zI ((60 : Nat) : Int) from rfl, ha]; decide), if_neg (by rw [show (61 : Int32) = zI ((61 : Nat) : Int) from rfl, hb]; decide)])) hC1
  have e4 : ((F1 11 4) = 4) = (kdS tp N s1 = 4) := kd_eq hC1 (k := 4) (by decide)
  rw [e4]
  by_cases h4 : kdS tp N s1 = 4
  · obtain ⟨g1, g2⟩ := sg_eq hC1 (x := 60) (by decide) h4
    obtain ⟨_, g3⟩ := sg_eq hC1 (x := 61) (by decide) h4
    rw [show (60 : Int32) = zI ((60 : Nat) : Int) from rfl, show (61 : Int32) = zI ((61 : Nat) : Int) from rfl, g2, g3]
    exact ⟨fun _ => ⟨g1, fun ha => b1 ha, fun ha => ⟨fun _ => ⟨fun hb => b2 (by simpa using ha) hb, fun hb => b3 (by simpa using ha) (by simpa using hb)⟩, fun e => absurd h4 e⟩⟩, fun e => absurd h4 e⟩
  · exact ⟨fun e => absurd e h4, fun _ => ⟨fun e => absurd e h4, fun _ => b3 (sg_no h4 _) (sg_no h4 _)⟩⟩
theorem cc_38 (hG : Geo G SL p q) (hP : PrOk N k P) (h39 : CC F0 A0 tp N J G (d + 1) 39 [.ref 11, .int x1, .null] P) : CC F0 A0 tp N J G (d + 2) 38 [.ref 11, .int x1, .null, .null] (ntS tp N P 6 0) := by
  intro F A s c Q hC h1 h0
  refine t_38_0 hG ?_
  have fin : ∀ (m : Nat) F A s c (x3 : Int32), m ≤ 6 → c.length + m ≤ s → CR F0 A0 tp N F A s c → (∀ F' A' s' c', (match P s c with | .inl e => (.inl e : RdR) | .inr q => .inr (q.1, q.2 ++ List.replicate m (-7))) = .inr (s', c') → CR F0 A0 tp N F' A' s' c' → Q (.inl (some (.int 1))) (F', A', J, G)) → (∀ F' A' e, (match P s c with | .inl e => (.inl e : RdR) | .inr q => .inr (q.1, q.2 ++ List.replicate m (-7))) = .inl e → CE F0 A0 F' A' e → Q (.inl (some (.int 0))) (F', A', J, G)) → X (d + 1) 39 0 [.ref 11, .int x1, .null] [] (F, A, J, G) (KK (d + 2) 38 49 [.ref 11, .int x1, .int (zI (m : Int)), .int x3] [] Q) := by
    intro m F A s c x3 hm hcm hC h1 h0
    refine h39 F A s c _ hC (fun F1 A1 s1 c1 hp hC1 => k_38_49 hG ⟨fun e => absurd e ne10, fun _ => ?_⟩) (fun F1 A1 e hp hE => k_38_49 hG ⟨fun _ => h0 F1 A1 e (by rw [hp]) hE, fun e => absurd rfl e⟩)
    rw [hp] at h1
    obtain ⟨a1, a2, v, a3, a4, a5⟩ := hP _ _ _ _ hp hC.2.1.2.2.2.1
    have hlen : c1.length + m ≤ s1 := by rw [a3, List.length_append]; omega
    refine up_ind (h := m) (P := fun j => ∀ F2 A2, CR F0 A0 tp N F2 A2 s1 (c1 ++ List.replicate j (-7)) → X (d + 2) 38 56 [.ref 11, .int x1, .int (zI (m : Int)), .int (zI (j : Int))] [] (F2, A2, J, G) Q) ?_ ?_ F1 A1 (by simpa using hC1)
    · intro F2 A2 hC2
      refine t_38_56 hG ?_
      rw [zN_lt (by omega) (by omega)]
      exact ⟨fun e => absurd e (Nat.lt_irrefl _), fun _ => h1 F2 A2 s1 _ rfl hC2⟩
    · intro j hj ih F2 A2 hC2
      have hr : (c1 ++ List.replicate j (-7)).length < s1 := by simp only [List.length_append, List.length_replicate]; omega
      refine t_38_56 hG ?_
      rw [zN_lt (by omega) (by omega), zN_1]
      refine ⟨fun _ => add_if hC2 hr (ih _ _ ?_), fun e => absurd hj e⟩
      have := CR_a hC2 (x := (-7 : Int32)) (z := -7) rfl hr
      rw [List.append_assoc, show List.replicate j (-7) ++ [(-7 : Int)] = List.replicate (j + 1) (-7) from List.replicate_succ'.symm] at this
      exact this
  have L : ∀ (f m : Nat) F A s c, m + f = 6 → c.length + m ≤ s → CR F0 A0 tp N F A s c → (∀ F' A' s' c', ntS tp N P f m s c = .inr (s', c') → CR F0 A0 tp N F' A' s' c' → Q (.inl (some (.int 1))) (F', A', J, G)) → (∀ F' A' e, ntS tp N P f m s c = .inl e → CE F0 A0 F' A' e → Q (.inl (some (.int 0))) (F', A', J, G)) → X (d + 2) 38 4 [.ref 11, .int x1, .int (zI (m : Int)), .int (zI (m : Int))] [] (F, A, J, G) Q := by
    intro f
    induction f with
    | zero =>
      intro m F A s c hf hcm hC h1 h0
      refine t_38_4 hG ?_
      rw [show (6 : Int32) = zI ((6 : Nat) : Int) from rfl, zN_lt (by omega) (by omega)]
      refine ⟨fun e => by omega, fun _ => c_46 hG (i := 9) (by decide) hC (fun hw => k_38_16 hG ⟨fun e => absurd e ne10, fun _ => ?_⟩) (fun hw => k_38_16 hG ⟨fun _ => ?_, fun e => absurd rfl e⟩)⟩
      · rw [zN_1, show (6 : Int32) = zI ((6 : Nat) : Int) from rfl, zN_lt (by omega) (by omega)]
        refine ⟨fun _ => h0 _ _ (2, s) ?_ (CR_e hC rfl (by decide) (by decide)), fun e => by omega⟩
        rw [ntS, if_pos hw]
      · refine fin m F A s c _ (by omega) hcm hC (fun F' A' s' c' hq => h1 F' A' s' c' ?_) (fun F' A' e hq => h0 F' A' e ?_)
        · rw [ntS, if_neg (by rw [hw]; decide)]; exact hq
        · rw [ntS, if_neg (by rw [hw]; decide)]; exact hq
    | succ f ih =>
      intro m F A s c hf hcm hC h1 h0
      refine t_38_4 hG ?_
      rw [show (6 : Int32) = zI ((6 : Nat) : Int) from rfl, zN_lt (by omega) (by omega)]
      refine ⟨fun e => by omega, fun _ => c_46 hG (i := 9) (by decide) hC (fun hw => k_38_16 hG ⟨fun e => absurd e ne10, fun _ => ?_⟩) (fun hw => k_38_16 hG ⟨fun _ => ?_, fun e => absurd rfl e⟩)⟩
      · rw [zN_1, show (6 : Int32) = zI ((6 : Nat) : Int) from rfl, zN_lt (by omega) (by omega)]
        refine ⟨fun e => by omega, fun _ => CR_n hG hC (fun F1 hC1 => k_38_38 hG ?_)⟩
        rw [zN_1]
        have g := nx_gt (tp := tp) (wd_lt hw)
        refine ih (m + 1) F1 A _ c (by omega) (by omega) hC1 (fun F' A' s' c' hq => h1 F' A' s' c' ?_) (fun F' A' e hq => h0 F' A' e ?_)
        · rw [ntS, if_pos hw]; exact hq
        · rw [ntS, if_pos hw]; exact hq
      · refine fin m F A s c _ (by omega) hcm hC (fun F' A' s' c' hq => h1 F' A' s' c' ?_) (fun F' A' e hq => h0 F' A' e ?_)
        · rw [ntS, if_neg (by rw [hw]; decide)]; exact hq
        · rw [ntS, if_neg (by rw [hw]; decide)]; exact hq
  exact L 6 0 F A s c rfl hC.2.1.2.2.2.2 hC h1 h0
theorem cc_37 (hG : Geo G SL p q) (hP : PrOk N k P) (h38 : CC F0 A0 tp N J G (d + 1) 38 [.ref 11, .int x1, .null, .null] P) : CC F0 A0 tp N J G (d + 2) 37 [.ref 11, .int x1, .null] (bnS (opW tp N 16 (-14)) (nxS tp N) P) := by
  intro F A s c Q hC h1 h0
  refine t_37_0 hG (h38 F A s c _ hC (fun F' A' s' c' hp hC' => k_37_5 hG ⟨fun e => absurd e ne10, fun _ => ?_⟩) (fun F' A' e hp hE => k_37_5 hG ⟨fun _ => h0 F' A' e (by unfold bnS; rw [hp]) hE, fun e => absurd rfl e⟩))
  have L : ∀ f F A s c, f ≤ 600 → CR F0 A0 tp N F A s c → (∀ F' A' s' c', lpS (opW tp N 16 (-14)) (nxS tp N) P f s c = .inr (s', c') → CR F0 A0 tp N F' A' s' c' → Q (.inl (some (.int 1))) (F', A', J, G)) → (∀ F' A' e, lpS (opW tp N 16 (-14)) (nxS tp N) P f s c = .inl e → CE F0 A0 F' A' e → Q (.inl (some (.int 0))) (F', A', J, G)) → X (d + 2) 37 12 [.ref 11, .int x1, .int (zI ((600 - f : Nat) : Int))] [] (F, A, J, G) Q := by
    intro f
    induction f with
    | zero =>
      intro F A s c hf hC h1 h0
      exact t_37_12 hG ⟨fun e => absurd e (by decide), fun _ => h1 F A s c rfl hC⟩
    | succ f ih =>
      intro F A s c hf hC h1 h0
      have hlt : zI ((600 - (f + 1) : Nat) : Int) < 600 := by
        rw [show (600 : Int32) = zI ((600 : Nat) : Int) from rfl, zN_lt (by omega) (by omega)]; omega
      refine t_37_12 hG ⟨fun _ => c_46 hG (i := 16) (by decide) hC (fun hw => k_37_25 hG ⟨fun e => absurd e ne10, fun _ => ?_⟩) (fun hw => k_37_25 hG ⟨fun _ => h1 F A s c ?_ hC, fun e => absurd rfl e⟩), fun e => absurd hlt e⟩
      · have ho : opW tp N 16 (-14) s = some (-14) := if_pos hw
        have hun : lpS (opW tp N 16 (-14)) (nxS tp N) P (f + 1) s c = match P (nxS tp N s) c with | .inl e => .inl e | .inr q => lpS (opW tp N 16 (-14)) (nxS tp N) P f q.1 (q.2 ++ [-14]) := by rw [lpS, ho]; rfl
        refine CR_n hG hC (fun F1 hC1 => k_37_32 hG (h38 F1 A _ c _ hC1 (fun F2 A2 s2 c2 hp hC2 => k_37_37 hG ⟨fun e => absurd e ne10, fun _ => ?_⟩) (fun F2 A2 e hp hE => k_37_37 hG ⟨fun _ => h0 F2 A2 e (by rw [hun, hp]) hE, fun e => absurd rfl e⟩)))
        have hroom := pr_room hP hC (wd_lt hw) hp
        refine add_if hC2 hroom ?_
        rw [zN_1, show 600 - (f + 1) + 1 = 600 - f by omega]
        exact ih _ _ s2 (c2 ++ [-14]) (by omega) (CR_a hC2 rfl hroom) (fun F' A' s' c' hq hC' => h1 F' A' s' c' (by rw [hun, hp]; exact hq) hC') (fun F' A' e hq hE => h0 F' A' e (by rw [hun, hp]; exact hq) hE)
      · have ho : opW tp N 16 (-14) s = none := if_neg (by rw [hw]; decide)
        rw [lpS, ho]
  exact L 600 F' A' s' c' (Nat.le_refl _) hC' (fun F2 A2 s2 c2 hq hC2 => h1 F2 A2 s2 c2 (by unfold bnS; rw [hp]; exact hq) hC2) (fun F2 A2 e hq hE => h0 F2 A2 e (by unfold bnS; rw [hp]; exact hq) hE)
theorem cc_36 (hG : Geo G SL p q) (hx6 : x1 < 6) (hP : PrOk N k P) (h37 : CC F0 A0 tp N J G (d + 1) 37 [.ref 11, .int x1, .null] P) : CC F0 A0 tp N J G (d + 2) 36 [.ref 11, .int x1, .null] (bnS (opW tp N 17 (-15)) (nxS tp N) P) := by
  intro F A s c Q hC h1 h0
  refine t_36_0 hG ⟨fun _ => h37 F A s c _ hC (fun F' A' s' c' hp hC' => k_36_46 hG ⟨fun e => absurd e ne10, fun _ => ?_⟩) (fun F' A' e hp hE => k_36_46 hG ⟨fun _ => h0 F' A' e (by unfold bnS; rw [hp]) hE, fun e => absurd rfl e⟩), fun e => absurd hx6 e⟩
  have L : ∀ f F A s c, f ≤ 600 → CR F0 A0 tp N F A s c → (∀ F' A' s' c', lpS (opW tp N 17 (-15)) (nxS tp N) P f s c = .inr (s', c') → CR F0 A0 tp N F' A' s' c' → Q (.inl (some (.int 1))) (F', A', J, G)) → (∀ F' A' e, lpS (opW tp N 17 (-15)) (nxS tp N) P f s c = .inl e → CE F0 A0 F' A' e → Q (.inl (some (.int 0))) (F', A', J, G)) → X (d + 2) 36 53 [.ref 11, .int x1, .int (zI ((600 - f : Nat) : Int))] [] (F, A, J, G) Q := by
    intro f
    induction f with
    | zero =>
      intro F A s c hf hC h1 h0
      exact t_36_53 hG ⟨fun e => absurd e (by decide), fun _ => h1 F A s c rfl hC⟩
    | succ f ih =>
      intro F A s c hf hC h1 h0
      have hlt : zI ((600 - (f + 1) : Nat) : Int) < 600 := by
        rw [show (600 : Int32) = zI ((600 : Nat) : Int) from rfl, zN_lt (by omega) (by omega)]; omega
      refine t_36_53 hG ⟨fun _ => c_46 hG (i := 17) (by decide) hC (fun hw => k_36_66 hG ⟨fun e => absurd e ne10, fun _ => ?_⟩) (fun hw => k_36_66 hG ⟨fun _ => h1 F A s c ?_ hC, fun e => absurd rfl e⟩), fun e => absurd hlt e⟩
      · have ho : opW tp N 17 (-15) s = some (-15) := if_pos hw
        have hun : lpS (opW tp N 17 (-15)) (nxS tp N) P (f + 1) s c = match P (nxS tp N s) c with | .inl e => .inl e | .inr q => lpS (opW tp N 17 (-15)) (nxS tp N) P f q.1 (q.2 ++ [-15]) := by rw [lpS, ho]; rfl
        refine CR_n hG hC (fun F1 hC1 => k_36_73 hG (h37 F1 A _ c _ hC1 (fun F2 A2 s2 c2 hp hC2 => k_36_78 hG ⟨fun e => absurd e ne10, fun _ => ?_⟩) (fun F2 A2 e hp hE => k_36_78 hG ⟨fun _ => h0 F2 A2 e (by rw [hun, hp]) hE, fun e => absurd rfl e⟩)))
        have hroom := pr_room hP hC (wd_lt hw) hp
        refine add_if hC2 hroom ?_
        rw [zN_1, show 600 - (f + 1) + 1 = 600 - f by omega]
        exact ih _ _ s2 (c2 ++ [-15]) (by omega) (CR_a hC2 rfl hroom) (fun F' A' s' c' hq hC' => h1 F' A' s' c' (by rw [hun, hp]; exact hq) hC') (fun F' A' e hq hE => h0 F' A' e (by rw [hun, hp]; exact hq) hE)
      · have ho : opW tp N 17 (-15) s = none := if_neg (by rw [hw]; decide)
        rw [lpS, ho]
  exact L 600 F' A' s' c' (Nat.le_refl _) hC' (fun F2 A2 s2 c2 hq hC2 => h1 F2 A2 s2 c2 (by unfold bnS; rw [hp]; exact hq) hC2) (fun F2 A2 e hq hE => h0 F2 A2 e (by unfold bnS; rw [hp]; exact hq) hE)
/-- which value a word is -/
theorem c_45 (hG : Geo G SL p q) (hC : CR F0 A0 tp N F A s c) (h1 : ∀ z, vlS tp N s = some z → Q (.inl (some (.int (zI z)))) (F, A, J, G)) (h0 : vlS tp N s = none → Q (.inl (some (.int 0))) (F, A, J, G)) : X (d + 1) 45 0 [.ref 11] [] (F, A, J, G) Q := by
  unfold vlS at h1 h0
  have nt : ∀ {b : Bool}, b = false → ¬ b = true := fun h => by rw [h]; decide
  refine t_45_0 hG (c_46 hG (i := 10) (by decide) hC (fun hw => k_45_6 hG ⟨fun e => absurd e ne10, fun _ => h1 (-1) (if_pos hw)⟩) (fun w0 => k_45_6 hG ⟨fun _ => ?_, fun e => absurd rfl e⟩))
  rw [if_neg (nt w0)] at h1 h0
  refine c_46 hG (i := 11) (by decide) hC (fun hw => k_45_17 hG ⟨fun e => absurd e ne10, fun _ => h1 (-2) (if_pos hw)⟩) (fun w1 => k_45_17 hG ⟨fun _ => ?_, fun e => absurd rfl e⟩)
  rw [if_neg (nt w1)] at h1 h0
  refine c_46 hG (i := 12) (by decide) hC (fun hw => k_45_29 hG ⟨fun e => absurd e ne10, fun _ => h1 (-3) (if_pos hw)⟩) (fun w2 => k_45_29 hG ⟨fun _ => ?_, fun e => absurd rfl e⟩)
  rw [if_neg (nt w2)] at h1 h0
  refine c_46 hG (i := 13) (by decide) hC (fun hw => k_45_41 hG ⟨fun e => absurd e ne10, fun _ => h1 (-4) (if_pos hw)⟩) (fun w3 => k_45_41 hG ⟨fun _ => ?_, fun e => absurd rfl e⟩)
  rw [if_neg (nt w3)] at h1 h0
  refine c_46 hG (i := 14) (by decide) hC (fun hw => k_45_53 hG ⟨fun e => absurd e ne10, fun _ => h1 (-5) (if_pos hw)⟩) (fun w4 => k_45_53 hG ⟨fun _ => ?_, fun e => absurd rfl e⟩)
  rw [if_neg (nt w4)] at h1 h0
  refine c_46 hG (i := 15) (by decide) hC (fun hw => k_45_65 hG ⟨fun e => absurd e ne10, fun _ => h1 (-6) (if_pos hw)⟩) (fun w5 => k_45_65 hG ⟨fun _ => ?_, fun e => absurd rfl e⟩)
  rw [if_neg (nt w5)] at h1 h0
  exact h0 rfl
theorem cr_sub (hC : CR F0 A0 tp N F A s c) (hs : s < N) : (F 11 6) - (F 11 5) = zI ((enS tp N s - s : Nat) : Int) := by
  have := en_gt (tp := tp) hs
  rw [hC.2.2.2.2.2.1, hC.2.2.2.2.1, zI_sub]
  congr 1; omega
theorem cc_42 (hG : Geo G SL p q) (h36 : CC F0 A0 tp N J G (d + 1) 36 [.ref 11, .int (x1 + 1), .null] E) : CC F0 A0 tp N J G (d + 2) 42 [.ref 11, .int x1, .null] (ptS tp N E) := by
  intro F A s c Q hC h1 h0
  have e3 : ((F 11 4) = 3) = (kdS tp N s = 3) := kd_eq hC (k := 3) (by decide)
  have e2 : ((F 11 4) = 2) = (kdS tp N s = 2) := kd_eq hC (k := 2) (by decide)
  have hcl := hC.2.1.2.2.2.2
  have hn6 := hC.2.1.1
  refine t_42_0 hG ?_
  rw [e3, e2]
  refine ⟨fun h3 => ?_, fun h3 => ⟨fun h2 => ?_, fun h2 => ?_⟩⟩
  · have hs := kd_lt h3 (by decide)
    have hen := en_le (tp := tp) (Nat.le_of_lt hs)
    have hgt := nx_gt (tp := tp) hs
    rw [cr_sub hC hs, show (4 : Int32) = zI ((4 : Nat) : Int) from rfl, zN_lt (by omega) (by omega)]
    refine ⟨fun h4 => h0 _ _ (2, s) ?_ (CR_e hC rfl (by decide) (by decide)), fun h4 => ?_⟩
    · rw [ptS, if_pos h3, if_pos h4]
    · have hp : ptS tp N E s c = .inr (nxS tp N s, c ++ [nvS tp N s]) := by rw [ptS, if_pos h3, if_neg h4]
      -- the cell is added before the token is left
      have hC' : c.length < 600 := by omega
      have f81 : F 8 1 = zI (c.length : Int) := hC.2.2.2.2.2.2.2.2.1
      have hlt : (F 8 1) < 600 := by rw [f81, show (600 : Int32) = zI ((600 : Nat) : Int) from rfl, zN_lt (by omega) (by omega)]; exact hC'
      refine ⟨fun _ => ⟨by rw [f81]; exact zN_in (by omega) (by decide), ?_⟩, fun e => absurd hlt e⟩
      have h7 := hC.2.2.2.2.2.2.2.1 h3
      obtain ⟨⟨r1, r2, r3⟩, ⟨n6, hB, hA, hsN, hc⟩, f3, f8, f5, f6, f4, f7, _, hcd⟩ := hC
      refine c_49 hG n6 hB (fun j hj => by rw [wF_row (by decide)]; exact hA j hj) (en_le hsN) (by rw [wF_row (by decide)]; exact f3) (by rw [wF_row (by decide)]; exact f6) (fun F1 g1 g2 g5 g6 g4 g7 => k_42_45 hG (h1 F1 _ _ _ hp ?_))
      rw [h7, f81, zI_clamp (by omega)] at *
      refine ⟨⟨fun i i8 i11 => ?_, ⟨?_, ?_⟩, fun i i9 => ?_⟩, ⟨n6, hB, fun j hj => ?_, nx_le hsN, ?_⟩, ?_, ?_, g5, g6, g4, g7, ?_, fun i hi => ?_⟩
      · rw [g1 i i11, wF_row i8]; exact r1 i i8 i11
      · rw [g2 9 (by decide) (by decide) (by decide) (by decide), wF_row (by decide)]; exact r2.1
      · rw [g2 10 (by decide) (by decide) (by decide) (by decide), wF_row (by decide)]; exact r2.2
      · rw [wF_row i9]; exact r3 i i9
      · rw [wF_row (by decide)]; exact hA j hj
      · simp only [List.length_append, List.length_cons, List.length_nil]; omega
      · rw [g2 3 (by decide) (by decide) (by decide) (by decide), wF_row (by decide)]; exact f3
      · rw [g2 8 (by decide) (by decide) (by decide) (by decide), wF_row (by decide)]; exact f8
      · rw [g1 8 (by decide), wF_same, zN_1]; simp only [List.length_append, List.length_cons, List.length_nil]
      · rw [wF_at]
        simp only [List.length_append, List.length_cons, List.length_nil] at hi
        by_cases e : i = c.length
        · rw [if_pos ⟨rfl, e⟩, e]; simp
        · rw [if_neg (fun h => e h.2), hcd i (by omega)]
          simp only [List.getD_eq_getElem?_getD]
          rw [List.getElem?_append_left (by omega)]
  · have hs := kd_lt h2 (by decide)
    have hgt := nx_gt (tp := tp) hs
    refine c_45 hG hC (fun z hz => k_42_59 hG ⟨fun e => ?_, fun _ => ?_⟩) (fun hz => k_42_59 hG ⟨fun _ => h0 _ _ (3, s) ?_ (CR_e hC rfl (by decide) (by decide)), fun e => absurd rfl e⟩)
    · have hb := vl_b hz
      rw [show (0 : Int32) = zI 0 from rfl, zI_eq (by omega) (by omega) (by omega) (by omega)] at e
      omega
    · have hp : ptS tp N E s c = .inr (nxS tp N s, c ++ [z]) := by rw [ptS, if_neg h3, if_pos h2, hz]
      have hC' : c.length < 600 := by omega
      have f81 : F 8 1 = zI (c.length : Int) := hC.2.2.2.2.2.2.2.2.1
      have hlt : (F 8 1) < 600 := by rw [f81, show (600 : Int32) = zI ((600 : Nat) : Int) from rfl, zN_lt (by omega) (by omega)]; exact hC'
      refine ⟨fun _ => ⟨by rw [f81]; exact zN_in (by omega) (by decide), ?_⟩, fun e => absurd hlt e⟩
      obtain ⟨⟨r1, r2, r3⟩, ⟨n6, hB, hA, hsN, hc⟩, f3, f8, f5, f6, f4, f7, _, hcd⟩ := hC
      refine c_49 hG n6 hB (fun j hj => by rw [wF_row (by decide)]; exact hA j hj) (en_le hsN) (by rw [wF_row (by decide)]; exact f3) (by rw [wF_row (by decide)]; exact f6) (fun F1 g1 g2 g5 g6 g4 g7 => k_42_85 hG (h1 F1 _ _ _ hp ?_))
      rw [f81, zI_clamp (by omega)] at *
      refine ⟨⟨fun i i8 i11 => ?_, ⟨?_, ?_⟩, fun i i9 => ?_⟩, ⟨n6, hB, fun j hj => ?_, nx_le hsN, ?_⟩, ?_, ?_, g5, g6, g4, g7, ?_, fun i hi => ?_⟩
      · rw [g1 i i11, wF_row i8]; exact r1 i i8 i11
      · rw [g2 9 (by decide) (by decide) (by decide) (by decide), wF_row (by decide)]; exact r2.1
      · rw [g2 10 (by decide) (by decide) (by decide) (by decide), wF_row (by decide)]; exact r2.2
      · rw [wF_row i9]; exact r3 i i9
      · rw [wF_row (by decide)]; exact hA j hj
      · simp only [List.length_append, List.length_cons, List.length_nil]; omega
      · rw [g2 3 (by decide) (by decide) (by decide) (by decide), wF_row (by decide)]; exact f3
      · rw [g2 8 (by decide) (by decide) (by decide) (by decide), wF_row (by decide)]; exact f8
      · rw [g1 8 (by decide), wF_same, zN_1]; simp only [List.length_append, List.length_cons, List.length_nil]
      · rw [wF_at]
        simp only [List.length_append, List.length_cons, List.length_nil] at hi
        by_cases e : i = c.length
        · rw [if_pos ⟨rfl, e⟩, e]; simp
        · rw [if_neg (fun h => e h.2), hcd i (by omega)]
          simp only [List.getD_eq_getElem?_getD]
          rw [List.getElem?_append_left (by omega)]
    · rw [ptS, if_neg h3, if_pos h2, hz]
  · refine sg_if hC (x := 40) (by decide) (fun hg => ?_) (fun hg => h0 _ _ (1, s) ?_ (CR_e hC rfl (by decide) (by decide)))
    · have hun : ptS tp N E s c = match E (nxS tp N s) c with | .inl e => .inl e | .inr q => if sgB tp N 41 q.1 = true then .inr (nxS tp N q.1, q.2) else .inl (1, q.1) := by
        rw [ptS, if_neg h3, if_neg h2, if_pos (show sgB tp N 40 s = true from hg)]; rfl
      refine CR_n hG hC (fun F1 hC1 => k_42_106 hG (h36 F1 A _ c _ hC1 (fun F2 A2 s2 c2 hp hC2 => k_42_113 hG ⟨fun e => absurd e ne10, fun _ => ?_⟩) (fun F2 A2 e hp hE => k_42_113 hG ⟨fun _ => h0 F2 A2 e (by rw [hun, hp]) hE, fun e => absurd rfl e⟩)))
      refine sg_if hC2 (x := 41) (by decide) (fun hg2 => ?_) (fun hg2 => h0 _ _ (1, s2) ?_ (CR_e hC2 rfl (by decide) (by decide)))
      · refine CR_n hG hC2 (fun F3 hC3 => k_42_137 hG (h1 F3 A2 _ c2 ?_ hC3))
        rw [hun, hp]; exact if_pos hg2
      · rw [hun, hp]; exact if_neg (by rw [show (41 : Int32) = zI ((41 : Nat) : Int) from rfl, hg2]; decide)
    · rw [ptS, if_neg h3, if_neg h2, if_neg (by rw [show (40 : Int32) = zI ((40 : Nat) : Int) from rfl, hg]; decide)]
/-- an expression -/
theorem cc_ex (hG : Geo G SL p q) : ∀ (r w d : Nat), r + w = 6 → 7 * r + 2 ≤ d → CC F0 A0 tp N J G d 36 [.ref 11, .int (zI (w : Int)), .null] (exS tp N r)
  | 0, w, d, hw, hd => by
    intro F A s c Q hC h1 h0
    obtain ⟨d2, rfl⟩ : ∃ d2, d = d2 + 2 := ⟨d - 2, by omega⟩
    have e3 : ((F 11 4) = 3) = (kdS tp N s = 3) := kd_eq hC (k := 3) (by decide)
    have e2 : ((F 11 4) = 2) = (kdS tp N s = 2) := kd_eq hC (k := 2) (by decide)
    have two : ∀ x : Nat, (if kdS tp N s = 3 ∨ kdS tp N s = 2 ∨ sgB tp N 40 s = true then 2 else 1) = x → exS tp N 0 s c = .inl (x, s) := fun x hx => by rw [exS]; dsimp only; rw [hx]
    refine t_36_0 hG ⟨fun e => ?_, fun _ => ?_⟩
    · rw [show (6 : Int32) = zI ((6 : Nat) : Int) from rfl, zN_lt (by omega) (by omega)] at e
      omega
    · rw [e3, e2]
      refine ⟨fun h3 => h0 _ _ (2, s) (two 2 (if_pos (Or.inl h3))) (CR_e hC rfl (by decide) (by decide)), fun h3 => ⟨fun h2 => h0 _ _ (2, s) (two 2 (if_pos (Or.inr (Or.inl h2)))) (CR_e hC rfl (by decide) (by decide)), fun h2 => ?_⟩⟩
      refine sg_if hC (x := 40) (by decide) (fun hg => h0 _ _ (2, s) (two 2 (if_pos (Or.inr (Or.inr hg)))) (CR_e hC rfl (by decide) (by decide))) (fun hg => h0 _ _ (1, s) (two 1 (if_neg (fun h => ?_))) (CR_e hC rfl (by decide) (by decide)))
      rcases h with h | h | h
      · exact h3 h
      · exact h2 h
      · rw [show (40 : Int32) = zI ((40 : Nat) : Int) from rfl, hg] at h; exact absurd h (by decide)
  | r + 1, w, d, hw, hd => by
    obtain ⟨d2, rfl⟩ : ∃ d2, d = d2 + 8 := ⟨d - 8, by omega⟩
    have ih := cc_ex hG r (w + 1) (d2 + 1) (by omega) (by omega)
    rw [← zN_1] at ih
    have h42 := cc_42 (d := d2) hG ih
    have hE := ex_ok (tp := tp) (N := N) r
    exact cc_36 (d := d2 + 6) hG (by rw [show (6 : Int32) = zI ((6 : Nat) : Int) from rfl, zN_lt (by omega) (by omega)]; omega) (an_ok hE) (cc_37 (d := d2 + 5) hG (no_ok hE) (cc_38 (d := d2 + 4) hG (te_ok hE) (cc_39 (d := d2 + 3) hG (su_ok hE) (cc_40 (d := d2 + 2) hG (pr_ok hE) (cc_41 (d := d2 + 1) hG (pt_ok hE) h42)))))
end ReadCE
