/-! lines: what they say, the class reads them -/
section LineC
def upK (K : Nat → Nat → Int) (r i : Nat) (v : Int) : Nat → Nat → Int := fun r' i' => if r' = r ∧ i' = i then v else K r' i'
theorem upK_s (K : Nat → Nat → Int) (r i : Nat) (v : Int) : upK K r i v r i = v := if_pos ⟨rfl, rfl⟩
theorem upK_r {K : Nat → Nat → Int} {r i r' i' : Nat} {v : Int} (h : r' ≠ r) : upK K r i v r' i' = K r' i' := if_neg (fun q => h q.1)
theorem upK_c {K : Nat → Nat → Int} {r i r' i' : Nat} {v : Int} (h : i' ≠ i) : upK K r i v r' i' = K r' i' := if_neg (fun q => h q.2)
/-- a table's line behind its kind's word: where it ends, the row -/
def tbS (tp : Nat → Int32) (N s : Nat) : (Nat × Nat) ⊕ (Nat × Int × Int × Int × Int) := match numS tp N 1 99 s with
  | .inl e => .inl e
  | .inr a => match numS tp N 0 999 a.1 with
    | .inl e => .inl e
    | .inr b => match numS tp N 0 9 (if sgB tp N 45 b.1 = true then nxS tp N b.1 else b.1) with
      | .inl e => .inl e
      | .inr l => match numS tp N 0 99 l.1 with
        | .inl e => .inl e
        | .inr h => .inr (h.1, a.2, b.2, (if sgB tp N 45 b.1 = true then -l.2 else l.2), h.2)
/-- tables, what is told of them, limit and food told, the rule -/
abbrev TwnR : Type := Nat × (Nat → Nat → Int) × Bool × Bool × List Int
def clS (tp : Nat → Int32) (N s : Nat) (t : TwnR) : (Nat × Nat) ⊕ (Nat × TwnR) := if sgB tp N 59 s = true then .inr (nxS tp N s, t) else .inl (1, s)
def liS (tp : Nat → Int32) (N s : Nat) (t : TwnR) : (Nat × Nat) ⊕ (Nat × TwnR) := match knS tp N s with
  | some k => if 10 ≤ t.1 then .inl (2, s) else match tbS tp N (nxS tp N s) with
    | .inl e => .inl e
    | .inr v => clS tp N v.1 (t.1 + 1, upK (upK (upK (upK (upK t.2.1 0 t.1 k) 1 t.1 v.2.1) 2 t.1 v.2.2.1) 6 t.1 v.2.2.2.1) 3 t.1 v.2.2.2.2, t.2.2)
  | none => if wdB tp N 6 s = true then (if t.2.2.1 = true then .inl (4, s) else match numS tp N 0 40 (nxS tp N s) with
      | .inl e => .inl e
      | .inr v => clS tp N v.1 (t.1, upK t.2.1 4 0 v.2, true, t.2.2.2))
    else if wdB tp N 7 s = true then (if t.2.2.2.1 = true then .inl (4, s) else match numS tp N 0 999 (nxS tp N s) with
      | .inl e => .inl e
      | .inr v => clS tp N v.1 (t.1, upK t.2.1 5 0 v.2, t.2.2.1, true, t.2.2.2.2))
    else if wdB tp N 8 s = true then (if 0 < t.2.2.2.2.length then .inl (4, s) else match exS tp N 6 (nxS tp N s) [] with
      | .inl e => .inl e
      | .inr v => clS tp N v.1 (t.1, t.2.1, t.2.2.1, t.2.2.2.1, v.2))
    else .inl (1, s)
def twS (tp : Nat → Int32) (N : Nat) : Nat → Nat → TwnR → (Nat × Nat) ⊕ TwnR
  | 0, _, t => .inr t
  | f + 1, s, t => if kdS tp N s = 0 then .inr t else match liS tp N s t with
    | .inl e => .inl e
    | .inr q => twS tp N f q.1 q.2
def tw0 : TwnR := (0, fun r _ => if r = 4 then 9 else if r = 5 then 100 else 0, false, false, [])
def TlOk (t : TwnR) : Prop := TnOk t.2.1 t.1 ∧ (∀ i, i < t.1 → -9 ≤ t.2.1 6 i ∧ t.2.1 6 i ≤ 9) ∧ WfC (fun i => t.2.2.2.2.getD i 0) t.2.2.2.2.length
variable {d : Nat} {F A F0 A0 F1 A1 F' A' : Nat → Nat → Int32} {J : Nat → Nat → Int64} {G : pG} {Q : pR → pM → Prop} {SL p q : Nat} {tp : Nat → Int32} {N s i j n : Nat} {c : List Int} {lo hi : Int} {K : Nat → Nat → Int} {lt ft : Bool}
theorem num_b {s' : Nat} {v : Int} (h : numS tp N lo hi s = .inr (s', v)) (hs : s ≤ N) : (lo ≤ v ∧ v ≤ hi) ∧ s < s' ∧ s' ≤ N := by
  unfold numS at h
  split at h
  · rename_i h3
    split at h
    · cases h
    · rename_i h4
      cases h
      exact ⟨by omega, nx_gt (kd_lt h3 (by decide)), nx_le hs⟩
  · cases h
theorem num_e {e : Nat × Nat} (h : numS tp N lo hi s = .inl e) : e = (1, s) ∨ e = (2, s) := by
  unfold numS at h
  split at h
  · split at h
    · cases h; exact Or.inr rfl
    · cases h
  · cases h; exact Or.inl rfl
theorem CR_re (hC : CR F0 A0 tp N F A s c) (h11 : ∀ j, j ≠ 9 → j ≠ 10 → F' 11 j = F 11 j) (h8 : F' 8 1 = F 8 1) (h1 : A' 1 = A 1) (h9 : A' 9 = A 9) : CR F' A' tp N F' A' s c := by
  obtain ⟨_, ⟨n6, hB, hA, hs, hc⟩, f3, f8, f5, f6, f4, f7, f81, hcd⟩ := hC
  refine ⟨⟨fun _ _ _ => rfl, ⟨rfl, rfl⟩, fun _ _ => rfl⟩, ⟨n6, hB, by rw [h1]; exact hA, hs, hc⟩, ?_, ?_, ?_, ?_, ?_, ?_, by rw [h8]; exact f81, by rw [h9]; exact hcd⟩
  · rw [h11 3 (by decide) (by decide)]; exact f3
  · rw [h11 8 (by decide) (by decide)]; exact f8
  · rw [h11 5 (by decide) (by decide)]; exact f5
  · rw [h11 6 (by decide) (by decide)]; exact f6
  · rw [h11 4 (by decide) (by decide)]; exact f4
  · rw [h11 7 (by decide) (by decide)]; exact f7
theorem CR_same (hC : CR F0 A0 tp N F A s c) : CR F A tp N F A s c := CR_re hC (fun _ _ _ => rfl) rfl rfl rfl
/-- a number must stand there -/
theorem c_43 (hG : Geo G SL p q) (hlo : 0 ≤ lo ∧ lo ≤ 9999) (hhi : 0 ≤ hi ∧ hi ≤ 9999) {x1 x2 : Int32} (hx1 : x1 = zI lo) (hx2 : x2 = zI hi) (hC : CR F0 A0 tp N F A s c) (h1 : ∀ s' v, numS tp N lo hi s = .inr (s', v) → ∀ F', CR F0 A0 tp N F' A s' c → Q (.inl (some (.int (zI v)))) (F', A, J, G)) (h0 : ∀ e, numS tp N lo hi s = .inl e → ∀ F', CE F0 A0 F' A e → Q (.inl (some (.int (-1)))) (F', A, J, G)) : X (d + 2) 43 0 [.ref 11, .int x1, .int x2, .null] [] (F, A, J, G) Q := by
  have e3 : ((F 11 4) = 3) = (kdS tp N s = 3) := kd_eq hC (k := 3) (by decide)
  have n6 := hC.2.1.1
  have g1 := CR_e hC (k := 1) (x := 1) rfl (by decide) (by decide)
  have g2 := CR_e hC (k := 2) (x := 2) rfl (by decide) (by decide)
  refine t_43_0 hG ?_
  rw [e3]
  unfold numS at h1 h0
  refine ⟨fun h3 => ?_, fun h3 => h0 _ (if_neg h3) _ g1⟩
  have hs := kd_lt h3 (by decide)
  have hen := en_le (tp := tp) (Nat.le_of_lt hs)
  rw [if_pos h3] at h1 h0
  rw [cr_sub hC hs, show (4 : Int32) = zI ((4 : Nat) : Int) from rfl, zN_lt (by omega) (by omega)]
  refine ⟨fun h4 => h0 _ (if_pos (Or.inl h4)) _ g2, fun h4 => ?_⟩
  have hb := nvS_b h3 (by omega)
  have f7 := hC.2.2.2.2.2.2.2.1 h3
  rw [f7, hx1, hx2, zI_lt (by omega) (by omega) (by omega) (by omega), zI_lt (by omega) (by omega) (by omega) (by omega)]
  refine ⟨fun h5 => h0 _ (if_pos (Or.inr (Or.inl h5))) _ g2, fun h5 => ⟨fun h6 => h0 _ (if_pos (Or.inr (Or.inr h6))) _ g2, fun h6 => ?_⟩⟩
  refine CR_n hG hC (fun F' hC' => k_43_56 hG (h1 _ _ (if_neg (fun h => ?_)) F' hC'))
  omega
theorem CE_b {e : Nat × Nat} (h : CE F0 A0 F A e) : ¬ F 11 8 = 0 := by
  rw [h.2.2.2.1, show (0 : Int32) = zI ((0 : Nat) : Int) from rfl, zN_eq (by have := h.2.1; omega) (by decide)]
  have := h.2.1; omega
/-- which kind a word is -/
theorem c_44 (hG : Geo G SL p q) (hC : CR F0 A0 tp N F A s c) (h1 : ∀ z, knS tp N s = some z → Q (.inl (some (.int (zI (z : Int))))) (F, A, J, G)) (h0 : knS tp N s = none → Q (.inl (some (.int (-1)))) (F, A, J, G)) : X (d + 1) 44 0 [.ref 11] [] (F, A, J, G) Q := by
  unfold knS at h1 h0
  have nt : ∀ {b : Bool}, b = false → ¬ b = true := fun h => by rw [h]; decide
  refine t_44_0 hG (c_46 hG (i := 2) (by decide) hC (fun hw => k_44_6 hG ⟨fun e => absurd e ne10, fun _ => h1 0 (if_pos hw)⟩) (fun w0 => k_44_6 hG ⟨fun _ => ?_, fun e => absurd rfl e⟩))
  rw [if_neg (nt w0)] at h1 h0
  refine c_46 hG (i := 3) (by decide) hC (fun hw => k_44_17 hG ⟨fun e => absurd e ne10, fun _ => h1 1 (if_pos hw)⟩) (fun w1 => k_44_17 hG ⟨fun _ => ?_, fun e => absurd rfl e⟩)
  rw [if_neg (nt w1)] at h1 h0
  refine c_46 hG (i := 4) (by decide) hC (fun hw => k_44_28 hG ⟨fun e => absurd e ne10, fun _ => h1 2 (if_pos hw)⟩) (fun w2 => k_44_28 hG ⟨fun _ => ?_, fun e => absurd rfl e⟩)
  rw [if_neg (nt w2)] at h1 h0
  refine c_46 hG (i := 5) (by decide) hC (fun hw => k_44_39 hG ⟨fun e => absurd e ne10, fun _ => h1 3 (if_pos hw)⟩) (fun w3 => k_44_39 hG ⟨fun _ => ?_, fun e => absurd rfl e⟩)
  rw [if_neg (nt w3)] at h1 h0
  exact h0 rfl
/-- what a town's reading keeps -/
def RLr (F0 A0 F A : Nat → Nat → Int32) : Prop := (∀ i, i ≠ 2 → i ≠ 8 → i ≠ 11 → F i = F0 i) ∧ (∀ i, i ≠ 3 → i ≠ 4 → i ≠ 5 → i ≠ 6 → i ≠ 7 → i ≠ 9 → A i = A0 i)
theorem RLr.rf (F A : Nat → Nat → Int32) : RLr F A F A := ⟨fun _ _ _ _ => rfl, fun _ _ _ _ _ _ _ => rfl⟩
theorem RLr.of (h : RLr F0 A0 F A) (h2 : RFr F A F' A') : RLr F0 A0 F' A' := ⟨fun i i2 i8 i11 => by rw [h2.1 i i8 i11, h.1 i i2 i8 i11], fun i i3 i4 i5 i6 i7 i9 => by rw [h2.2.2 i i9, h.2 i i3 i4 i5 i6 i7 i9]⟩
/-- the class's reader between lines -/
def CL (F0 A0 : Nat → Nat → Int32) (tp : Nat → Int32) (N : Nat) (F A : Nat → Nat → Int32) (s : Nat) (t : TwnR) : Prop := RLr F0 A0 F A ∧ CR F A tp N F A s t.2.2.2.2 ∧ TlOk t ∧ F 2 0 = zI (t.1 : Int) ∧ F 2 1 = zI (t.2.1 4 0) ∧ F 2 2 = zI (t.2.1 5 0) ∧ (∀ i, i < t.1 → A 3 i = zI (t.2.1 0 i) ∧ A 4 i = zI (t.2.1 1 i) ∧ A 5 i = zI (t.2.1 2 i) ∧ A 6 i = zI (t.2.1 6 i) ∧ A 7 i = zI (t.2.1 3 i)) ∧ F 11 9 = bI t.2.2.1 ∧ F 11 10 = bI t.2.2.2.1
def CLE (F0 A0 F A : Nat → Nat → Int32) (e : Nat × Nat) : Prop := RLr F0 A0 F A ∧ (1 ≤ e.1 ∧ e.1 ≤ 4) ∧ e.2 ≤ 600 ∧ F 11 8 = zI (e.1 : Int) ∧ F 11 0 = zI (e.2 : Int)
theorem CLE_of {e : Nat × Nat} (h : RLr F0 A0 F A) (hE : CE F A F' A' e) : CLE F0 A0 F' A' e := ⟨h.of hE.1, hE.2⟩
/-- a line's end -/
theorem c_35 (hG : Geo G SL p q) {t : TwnR} (hL : CL F0 A0 tp N F A s t) (h1 : ∀ s' t', clS tp N s t = .inr (s', t') → ∀ F', CL F0 A0 tp N F' A s' t' → Q (.inl (some (.int 1))) (F', A, J, G)) (h0 : ∀ e, clS tp N s t = .inl e → ∀ F', CLE F0 A0 F' A e → Q (.inl (some (.int 0))) (F', A, J, G)) : X (d + 2) 35 0 [.ref 11] [] (F, A, J, G) Q := by
  obtain ⟨l1, hC, hT, l20, l21, l22, l3, l9, l10⟩ := hL
  unfold clS at h1 h0
  refine t_35_0 hG (sg_if hC (x := 59) (by decide) (fun hg => CR_n hG hC (fun F1 hC1 => k_35_19 hG (h1 _ _ (if_pos hg) F1 ⟨l1.of hC1.1, CR_same hC1, hT, ?_, ?_, ?_, l3, ?_, ?_⟩))) (fun hg => h0 _ (if_neg (by rw [show (59 : Int32) = zI ((59 : Nat) : Int) from rfl, hg]; decide)) _ (CLE_of l1 (CR_e hC (k := 1) rfl (by decide) (by decide)))))
  · rw [hC1.1.1 2 (by decide) (by decide)]; exact l20
  · rw [hC1.1.1 2 (by decide) (by decide)]; exact l21
  · rw [hC1.1.1 2 (by decide) (by decide)]; exact l22
  · rw [hC1.1.2.1.1]; exact l9
  · rw [hC1.1.2.1.2]; exact l10
theorem RFr.tr {F2 A2 : Nat → Nat → Int32} (h : RFr F0 A0 F A) (h2 : RFr F A F2 A2) : RFr F0 A0 F2 A2 := ⟨fun i i8 i11 => by rw [h2.1 i i8 i11, h.1 i i8 i11], ⟨by rw [h2.2.1.1, h.2.1.1], by rw [h2.2.1.2, h.2.1.2]⟩, fun i i9 => by rw [h2.2.2 i i9, h.2.2 i i9]⟩
/-- a table's line but for its end -/
theorem c_31 (hG : Geo G SL p q) {t : TwnR} {k : Nat} (hk : k ≤ 3) (hL : CL F0 A0 tp N F A s t) (hs : s < N) (h10 : 10 ≤ t.1 → ∀ F', CLE F0 A0 F' A (2, s) → Q (.inl (some (.int 0))) (F', A, J, G)) (h1 : t.1 < 10 → ∀ v, tbS tp N (nxS tp N s) = .inr v → ∀ F' A', CL F0 A0 tp N F' A' v.1 (t.1 + 1, upK (upK (upK (upK (upK t.2.1 0 t.1 k) 1 t.1 v.2.1) 2 t.1 v.2.2.1) 6 t.1 v.2.2.2.1) 3 t.1 v.2.2.2.2, t.2.2) → Q (.inl (some (.int 1))) (F', A', J, G)) (h0 : t.1 < 10 → ∀ e, tbS tp N (nxS tp N s) = .inl e → ∀ F', CLE F0 A0 F' A e → Q (.inl (some (.int 0))) (F', A, J, G)) : X (d + 3) 31 0 [.ref 11, .int (zI (k : Int)), .null, .null, .null, .null, .null, .null] [] (F, A, J, G) Q := by
  obtain ⟨l1, hC, hT, l20, l21, l22, l3, l9, l10⟩ := hL
  have ht := hT.1.1
  refine t_31_0 hG ?_
  rw [l20, show (10 : Int32) = zI ((10 : Nat) : Int) from rfl, zN_lt (by omega) (by omega)]
  refine ⟨fun hn => ?_, fun hn => h10 (by omega) _ (CLE_of l1 (CR_e hC (k := 2) rfl (by decide) (by decide)))⟩
  have h1 := h1 hn
  have h0 := h0 hn
  unfold tbS at h1 h0
  refine CR_n hG hC (fun F1 hC1 => k_31_24 hG (c_43 hG (lo := 1) (hi := 99) (by decide) (by decide) rfl rfl hC1 (fun s2 w e2 F2 hC2 => ?_) (fun e he F2 hE => ?_)))
  case refine_2 =>
    have hb := CE_b hE
    rw [he] at h0
    exact k_31_31 hG ⟨fun h => absurd h hb, fun _ => ⟨fun h => absurd h hb, fun _ => ⟨fun h => absurd h hb, fun _ => ⟨fun h => absurd h hb, fun _ => ⟨fun h => absurd h hb, fun _ => h0 e rfl F2 (CLE_of l1 hE)⟩⟩⟩⟩⟩
  rw [e2] at h1 h0
  dsimp only at h1 h0
  have b2 := num_b e2 (nx_le (Nat.le_of_lt hs))
  have z2 : F2 11 8 = 0 := hC2.2.2.2.1
  refine k_31_31 hG ⟨fun _ => c_43 hG (lo := 0) (hi := 999) (by decide) (by decide) rfl rfl hC2 (fun s3 b e3 F3 hC3 => ?_) (fun e he F3 hE => ?_), fun h => absurd z2 h⟩
  case refine_2 =>
    have hb := CE_b hE
    rw [he] at h0
    exact k_31_47 hG ⟨fun h => absurd h hb, fun _ => ⟨fun h => absurd h hb, fun _ => ⟨fun h => absurd h hb, fun _ => ⟨fun h => absurd h hb, fun _ => h0 e rfl F3 (CLE_of l1 hE)⟩⟩⟩⟩
  rw [e3] at h1 h0
  dsimp only at h1 h0
  have b3 := num_b e3 b2.2.2
  have z3 : F3 11 8 = 0 := hC3.2.2.2.1
  -- behind the sign
  have tail : ∀ (sd : Int) (x5 : Int32) s4, x5 = zI sd → (sd = 1 ∨ sd = -1) → s4 ≤ N → (∀ v, (match numS tp N 0 9 s4 with | .inl e => (.inl e : (Nat × Nat) ⊕ (Nat × Int × Int × Int × Int)) | .inr l => match numS tp N 0 99 l.1 with | .inl e => .inl e | .inr h => .inr (h.1, w, b, sd * l.2, h.2)) = .inr v → ∀ F' A', CL F0 A0 tp N F' A' v.1 (t.1 + 1, upK (upK (upK (upK (upK t.2.1 0 t.1 k) 1 t.1 v.2.1) 2 t.1 v.2.2.1) 6 t.1 v.2.2.2.1) 3 t.1 v.2.2.2.2, t.2.2) → Q (.inl (some (.int 1))) (F', A', J, G)) → (∀ e, (match numS tp N 0 9 s4 with | .inl e => (.inl e : (Nat × Nat) ⊕ (Nat × Int × Int × Int × Int)) | .inr l => match numS tp N 0 99 l.1 with | .inl e => .inl e | .inr h => .inr (h.1, w, b, sd * l.2, h.2)) = .inl e → ∀ F', CLE F0 A0 F' A e → Q (.inl (some (.int 0))) (F', A, J, G)) → ∀ F4, CR F A tp N F4 A s4 t.2.2.2.2 → X (d + 2) 43 0 [.ref 11, .int 0, .int 9, .null] [] (F4, A, J, G) (KK (d + 3) 31 99 [.ref 11, .int (zI (k : Int)), .int (zI (t.1 : Int)), .int (zI w), .int (zI b), .int x5, .null, .null] [] Q) := by
    intro sd x5 s4 hx5 hsd hs4 h1 h0 F4 hC4
    refine c_43 hG (lo := 0) (hi := 9) (by decide) (by decide) rfl rfl hC4 (fun s5 l e5 F5 hC5 => ?_) (fun e he F5 hE => ?_)
    case refine_2 =>
      have hb := CE_b hE
      rw [he] at h0
      exact k_31_99 hG ⟨fun h => absurd h hb, fun _ => ⟨fun h => absurd h hb, fun _ => h0 e rfl F5 (CLE_of l1 hE)⟩⟩
    rw [e5] at h1 h0
    dsimp only at h1 h0
    have b5 := num_b e5 hs4
    have z5 : F5 11 8 = 0 := hC5.2.2.2.1
    refine k_31_99 hG ⟨fun _ => c_43 hG (lo := 0) (hi := 99) (by decide) (by decide) rfl rfl hC5 (fun s6 h e6 F6 hC6 => ?_) (fun e he F6 hE => ?_), fun h => absurd z5 h⟩
    case refine_2 =>
      have hb := CE_b hE
      rw [he] at h0
      exact k_31_119 hG ⟨fun h => absurd h hb, fun _ => h0 e rfl F6 (CLE_of l1 hE)⟩
    rw [e6] at h1 h0
    have b6 := num_b e6 b5.2.2
    have z6 : F6 11 8 = 0 := hC6.2.2.2.1
    refine k_31_119 hG ⟨fun _ => ⟨zN_in hn (by decide), ?_⟩, fun h => absurd z6 h⟩
    rw [zN_1, zI_clamp (by omega), hx5, zI_mul]
    have hl9 : -9 ≤ sd * l ∧ sd * l ≤ 9 := by rcases hsd with rfl | rfl <;> omega
    refine h1 _ rfl _ _ ⟨?_, ?_, ?_, ?_, ?_, ?_, ?_, ?_, ?_⟩
    · have hr := l1.of hC6.1
      refine ⟨fun i i2 i8 i11 => ?_, fun i i3 i4 i5 i6 i7 i9 => ?_⟩
      · rw [wF_row i2]; exact hr.1 i i2 i8 i11
      · rw [wF_row i7, wF_row i6, wF_row i5, wF_row i4, wF_row i3]; exact hr.2 i i3 i4 i5 i6 i7 i9
    · refine CR_re hC6 (fun j _ _ => ?_) ?_ ?_ ?_
      · rw [wF_row (by decide)]
      · rw [wF_row (by decide)]
      · rw [wF_row (by decide), wF_row (by decide), wF_row (by decide), wF_row (by decide), wF_row (by decide)]
      · rw [wF_row (by decide), wF_row (by decide), wF_row (by decide), wF_row (by decide), wF_row (by decide)]
    · refine ⟨⟨by dsimp only; omega, fun i hi => ?_, ?_, ?_⟩, fun i hi => ?_, hT.2.2⟩
      · dsimp only at hi ⊢
        by_cases e : i = t.1
        · subst e
          rw [upK_r (by decide), upK_r (by decide), upK_r (by decide), upK_r (by decide), upK_s, upK_r (by decide), upK_r (by decide), upK_r (by decide), upK_s, upK_r (by decide), upK_r (by decide), upK_s, upK_s]
          exact ⟨by omega, b2.1, b3.1, b6.1⟩
        · rw [upK_c e, upK_c e, upK_c e, upK_c e, upK_c e, upK_c e, upK_c e, upK_c e, upK_c e, upK_c e, upK_c e, upK_c e, upK_c e, upK_c e, upK_c e, upK_c e, upK_c e, upK_c e, upK_c e, upK_c e]
          exact hT.1.2.1 i (by omega)
      · dsimp only
        rw [upK_r (by decide), upK_r (by decide), upK_r (by decide), upK_r (by decide), upK_r (by decide)]
        exact hT.1.2.2.1
      · dsimp only
        rw [upK_r (by decide), upK_r (by decide), upK_r (by decide), upK_r (by decide), upK_r (by decide)]
        exact hT.1.2.2.2
      · dsimp only at hi ⊢
        by_cases e : i = t.1
        · subst e
          rw [upK_r (by decide), upK_s]; exact hl9
        · rw [upK_c e, upK_c e, upK_c e, upK_c e, upK_c e]
          exact hT.2.1 i (by omega)
    · exact wF_same _ _ _ _
    · dsimp only
      rw [wF_cell (by decide), upK_r (by decide), upK_r (by decide), upK_r (by decide), upK_r (by decide), upK_r (by decide), hC6.1.1 2 (by decide) (by decide)]; exact l21
    · dsimp only
      rw [wF_cell (by decide), upK_r (by decide), upK_r (by decide), upK_r (by decide), upK_r (by decide), upK_r (by decide), hC6.1.1 2 (by decide) (by decide)]; exact l22
    · intro i hi
      dsimp only at hi ⊢
      by_cases e : i = t.1
      · subst e
        rw [upK_r (by decide), upK_r (by decide), upK_r (by decide), upK_r (by decide), upK_s, upK_r (by decide), upK_r (by decide), upK_r (by decide), upK_s, upK_r (by decide), upK_r (by decide), upK_s, upK_r (by decide), upK_s, upK_s]
        refine ⟨?_, ?_, ?_, ?_, ?_⟩
        · rw [wF_row (by decide), wF_row (by decide), wF_row (by decide), wF_row (by decide), wF_same]
        · rw [wF_row (by decide), wF_row (by decide), wF_row (by decide), wF_same]
        · rw [wF_row (by decide), wF_row (by decide), wF_same]
        · rw [wF_row (by decide), wF_same]
        · rw [wF_same]
      · rw [upK_c e, upK_c e, upK_c e, upK_c e, upK_c e, upK_c e, upK_c e, upK_c e, upK_c e, upK_c e, upK_c e, upK_c e, upK_c e, upK_c e, upK_c e, upK_c e, upK_c e, upK_c e, upK_c e, upK_c e, upK_c e, upK_c e, upK_c e, upK_c e, upK_c e]
        rw [wF_cell e, wF_cell e, wF_cell e, wF_cell e, wF_cell e, wF_cell e, wF_cell e, wF_cell e, wF_cell e, wF_cell e, wF_cell e, wF_cell e, wF_cell e, wF_cell e, wF_cell e, wF_cell e, wF_cell e, wF_cell e, wF_cell e, wF_cell e, wF_cell e, wF_cell e, wF_cell e, wF_cell e, wF_cell e]
        exact l3 i (by omega)
    · rw [wF_row (by decide), hC6.1.2.1.1]; exact l9
    · rw [wF_row (by decide), hC6.1.2.1.2]; exact l10
  refine k_31_47 hG ⟨fun _ => sg_if hC3 (x := 45) (by decide) (fun hg => CR_n hG hC3 (fun F4 hC4 => ?_)) (fun hg => ⟨fun _ => ?_, fun h => absurd z3 h⟩), fun h => absurd z3 h⟩
  · have hg' : sgB tp N 45 s3 = true := hg
    rw [if_pos hg'] at h1 h0
    refine k_31_85 hG ⟨fun _ => tail (-1) _ _ rfl (Or.inr rfl) (nx_le b3.2.2) (fun v hv => h1 v ?_) (fun e he => h0 e ?_) F4 hC4, fun h => absurd hC4.2.2.2.1 h⟩
    · rw [← hv]
      cases numS tp N 0 9 (nxS tp N s3) with
      | inl e => rfl
      | inr l => dsimp only; cases numS tp N 0 99 l.1 with
        | inl e => rfl
        | inr h => dsimp only; rw [if_pos hg']; simp
    · rw [← he]
      cases numS tp N 0 9 (nxS tp N s3) with
      | inl e => rfl
      | inr l => dsimp only; cases numS tp N 0 99 l.1 with
        | inl e => rfl
        | inr h => dsimp only; rw [if_pos hg']; simp
  · have hg' : ¬ sgB tp N 45 s3 = true := by rw [show (45 : Int32) = zI ((45 : Nat) : Int) from rfl, hg]; decide
    rw [if_neg hg'] at h1 h0
    refine tail 1 _ _ rfl (Or.inl rfl) b3.2.2 (fun v hv => h1 v ?_) (fun e he => h0 e ?_) F3 hC3
    · rw [← hv]
      cases numS tp N 0 9 s3 with
      | inl e => rfl
      | inr l => dsimp only; cases numS tp N 0 99 l.1 with
        | inl e => rfl
        | inr h => dsimp only; rw [if_neg hg']; simp
    · rw [← he]
      cases numS tp N 0 9 s3 with
      | inl e => rfl
      | inr l => dsimp only; cases numS tp N 0 99 l.1 with
        | inl e => rfl
        | inr h => dsimp only; rw [if_neg hg']; simp
end LineC
