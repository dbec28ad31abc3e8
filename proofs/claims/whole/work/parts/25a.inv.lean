/-! what holds between two calls -/
section Inv25
abbrev BsT : Type := Nat × (Nat → Sn) × Nat × (Nat → Nat) × (Nat → Int) × (Nat → Int32)
def CB (w : Nat) (F A : Nat → Nat → Int32) (n : Nat) (B : BsT) : Prop := CBs w F A n B.1 B.2.1 B.2.2.1 B.2.2.2.1 B.2.2.2.2.1 B.2.2.2.2.2
def MB (F A : Nat → Nat → Int32) (n : Nat) (B : BsT) : Prop := MBs F A n B.1 B.2.1 B.2.2.1 B.2.2.2.1 B.2.2.2.2.1 B.2.2.2.2.2
def MJ (F A : Nat → Nat → Int32) (n : Nat) (B : BsT) : Prop := MIm F A n B.1 B.2.1 B.2.2.1 B.2.2.2.1 B.2.2.2.2.1 B.2.2.2.2.2
def cuS (B : BsT) : Sn := B.2.1 B.1
def CI (c : Nat) (F A : Nat → Nat → Int32) (K : Nat → Nat → Int) (n : Nat) (cd : Nat → Int) (cl m : Nat) (tp : Nat → Int32) (fp : Int32) (im : Bool) (B B' : BsT) : Prop := CTn F A K n ∧ CRl F A cd cl ∧ CTp F A m tp ∧ CB 21 F A n B ∧ (∃ τ : Int, CTu F A τ ∧ τ ≤ 10 * (c : Int)) ∧ CMs F A K n (sM (cuS B)) (sW (cuS B)) (sL (cuS B)) (sY (cuS B)) ∧ (A 63 0 = 0 ∧ A 64 0 = 0) ∧ F 0 2 = fp ∧ F 0 3 = bI im ∧ (im = true → CB 35 F A n B')
def MI (F A : Nat → Nat → Int32) (K : Nat → Nat → Int) (n : Nat) (cd : Nat → Int) (cl m : Nat) (tp : Nat → Int32) (fp : Int32) (im : Bool) (B B' : BsT) : Prop := MTn F A K n ∧ MRl F A cd cl ∧ MTp F A m tp ∧ MB F A n B ∧ F 68 22 = fp ∧ F 68 50 = bI im ∧ (im = true → MJ F A n B')
def SI (c : Nat) (F A : Nat → Nat → Int32) : Prop := ∃ (K : Nat → Nat → Int) (n : Nat) (cd : Nat → Int) (cl m : Nat) (tp : Nat → Int32) (fp : Int32) (im : Bool) (B B' : BsT), CI c F A K n cd cl m tp fp im B B' ∧ MI F A K n cd cl m tp fp im B B' ∧ m ≤ 600 ∧ BtOk tp m
variable {F A F' A' F1 A1 : Nat → Nat → Int32} {K : Nat → Nat → Int} {n c c' w k : Nat} {cd : Nat → Int} {cl m : Nat} {tp : Nat → Int32} {fp : Int32} {im : Bool} {B B' : BsT} {hs : Nat → Sn}
theorem CHs_cg {o : Nat} (hF : F' o 0 = F o 0) (hA : A' (o + 1) = A (o + 1)) (hH : CHs o F A n k hs) : CHs o F' A' n k hs := by
  obtain ⟨a, b, c, e⟩ := hH
  exact ⟨a, by rw [hF]; exact b, c, by rw [hA]; exact e⟩
theorem CTw_cg {t h : Nat} {ord : Nat → Nat} {ml wd ln : Nat → Int} {yr : Int} (hF : F' t = F t) (h1 : A' (t + 1) = A (t + 1)) (h2 : A' (t + 2) = A (t + 2)) (h3 : A' (t + 3) = A (t + 3)) (h4 : A' (t + 4) = A (t + 4)) (hW : CTw t F A n h ord ml wd ln yr) : CTw t F' A' n h ord ml wd ln yr := by
  unfold CTw
  rw [hF, h1, h2, h3, h4]; exact hW
theorem CSt_cg {t : Nat} {s : Sn} (hF : F' t = F t) (h1 : A' (t + 1) = A (t + 1)) (h2 : A' (t + 2) = A (t + 2)) (h3 : A' (t + 3) = A (t + 3)) (h4 : A' (t + 4) = A (t + 4)) (hS : CSt t F A n s) : CSt t F' A' n s := ⟨CTw_cg hF h1 h2 h3 h4 hS.1, by rw [hF]; exact hS.2⟩
theorem CB_cg (hF : ∀ i, (i = w ∨ i = w + 1 ∨ i = w + 6) → F' i = F i) (hA : ∀ i, w + 2 ≤ i → i ≤ w + 10 → A' i = A i) (hB : CB w F A n B) : CB w F' A' n B := by
  obtain ⟨a, b, c, d, e, f, g⟩ := hB
  refine ⟨CHs_cg (by rw [hF _ (by omega)]) (hA _ (by omega) (by omega)) a, CSt_cg (hF _ (by omega)) (hA _ (by omega) (by omega)) (hA _ (by omega) (by omega)) (hA _ (by omega) (by omega)) (hA _ (by omega) (by omega)) b, c, ?_, ?_, ?_, ?_⟩
  · rw [hF w (by omega)]; exact d
  · rw [hA (w + 3) (by omega) (by omega)]; exact e
  · rw [hA (w + 4) (by omega) (by omega)]; exact f
  · rw [hA (w + 5) (by omega) (by omega)]; exact g
theorem CI_cg (hc : c ≤ c') (hF : ∀ i, i < 68 → i ≠ 18 → (i < 49 ∨ 60 < i) → F' i = F i) (h18 : F' 18 1 = F 18 1) (hA : ∀ i, i < 68 → i ≠ 20 → (i < 32 ∨ 34 < i) → (i < 50 ∨ 60 < i) → A' i = A i) (hI : CI c F A K n cd cl m tp fp im B B') : CI c' F' A' K n cd cl m tp fp im B B' := by
  obtain ⟨a1, a2, a3, a4, ⟨τ, a5, a5'⟩, a6, a7, a8, a9, a10⟩ := hI
  refine ⟨?_, ?_, ?_, ?_, ⟨τ, ?_, by omega⟩, ?_, ?_, ?_, ?_, fun h => ?_⟩
  · unfold CTn
    rw [hF 12 (by decide) (by decide) (by decide), hA 13 (by decide) (by decide) (by decide) (by decide), hA 14 (by decide) (by decide) (by decide) (by decide), hA 15 (by decide) (by decide) (by decide) (by decide), hA 17 (by decide) (by decide) (by decide) (by decide)]; exact a1
  · unfold CRl
    rw [h18, hA 19 (by decide) (by decide) (by decide) (by decide)]; exact a2
  · unfold CTp
    rw [hF 0 (by decide) (by decide) (by decide), hA 1 (by decide) (by decide) (by decide) (by decide)]; exact a3
  · exact CB_cg (fun i hi => hF i (by omega) (by omega) (by omega)) (fun i i1 i2 => hA i (by omega) (by omega) (by omega) (by omega)) a4
  · unfold CTu
    rw [hF 66 (by decide) (by decide) (by decide), hA 67 (by decide) (by decide) (by decide) (by decide)]; exact a5
  · unfold CMs
    rw [hF 21 (by decide) (by decide) (by decide), hF 61 (by decide) (by decide) (by decide), hA 62 (by decide) (by decide) (by decide) (by decide)]; exact a6
  · rw [hA 63 (by decide) (by decide) (by decide) (by decide), hA 64 (by decide) (by decide) (by decide) (by decide)]; exact a7
  · rw [hF 0 (by decide) (by decide) (by decide)]; exact a8
  · rw [hF 0 (by decide) (by decide) (by decide)]; exact a9
  · exact CB_cg (fun i hi => hF i (by omega) (by omega) (by omega)) (fun i i1 i2 => hA i (by omega) (by omega) (by omega) (by omega)) (a10 h)
theorem MTw_cg {h : Nat} {ord : Nat → Nat} {ml wd ln : Nat → Int} {yr : Int} (h10 : n ≤ 10) (h1 : F' 68 28 = F 68 28) (h2 : F' 68 29 = F 68 29) (h81 : ∀ i, 81 ≤ i → i ≤ 84 → ∀ j, j < 10 → A' i j = A i j) (hW : MTw F A n h ord ml wd ln yr) : MTw F' A' n h ord ml wd ln yr := by
  obtain ⟨a, b, c, d, e, f, g⟩ := hW
  have hh : h ≤ n := a.1
  exact ⟨a, by rw [h1]; exact b, by rw [h2]; exact c, fun l hl => by rw [h81 81 (by decide) (by decide) l (by omega)]; exact d l hl, fun i hi => by rw [h81 82 (by decide) (by decide) i (by omega)]; exact e i hi, fun i hi => by rw [h81 83 (by decide) (by decide) i (by omega)]; exact f i hi, fun i hi => by rw [h81 84 (by decide) (by decide) i (by omega)]; exact g i hi⟩
theorem MI_cg (h68 : ∀ k, (k = 13 ∨ k = 22 ∨ (28 ≤ k ∧ k ≤ 32) ∨ (50 ≤ k ∧ k ≤ 52)) → F' 68 k = F 68 k) (hA : ∀ i, 68 ≤ i → i < 104 → (i < 81 ∨ 84 < i) → (i < 86 ∨ 93 < i) → (i < 96 ∨ 98 < i) → A' i = A i) (h81 : ∀ i, 81 ≤ i → i ≤ 84 → ∀ j, j < 10 → A' i j = A i j) (hI : MI F A K n cd cl m tp fp im B B') : MI F' A' K n cd cl m tp fp im B B' := by
  obtain ⟨a1, a2, a3, ⟨b1, b2, b3, b4, b5⟩, a5, a6, a7⟩ := hI
  have g : ∀ i, 68 ≤ i → i < 81 → A' i = A i := fun i h1 h2 => hA i h1 (by omega) (by omega) (by omega) (by omega)
  refine ⟨?_, ?_, ?_, ⟨?_, ?_, ⟨MTw_cg a1.1.1 (h68 28 (by decide)) (h68 29 (by decide)) h81 b3.1, ?_⟩, ?_, ?_⟩, ?_, ?_, fun h => ?_⟩
  · unfold MTn Wrm
    rw [g 71 (by decide) (by decide), g 72 (by decide) (by decide), g 73 (by decide) (by decide), g 74 (by decide) (by decide), g 75 (by decide) (by decide), g 77 (by decide) (by decide)]; exact a1
  · exact MRl_fr (g 72 (by decide) (by decide)) (g 78 (by decide) (by decide)) a2
  · unfold MTp
    rw [h68 13 (by decide), g 80 (by decide) (by decide)]; exact a3
  · rw [h68 31 (by decide)]; exact b1
  · rw [hA 85 (by decide) (by decide) (by decide) (by decide) (by decide)]; exact b2
  · rw [h68 30 (by decide)]; exact b3.2
  · exact MSn_fr (h68 32 (by decide)) (hA 94 (by decide) (by decide) (by decide) (by decide) (by decide)) (hA 95 (by decide) (by decide) (by decide) (by decide) (by decide)) b4
  · rw [g 79 (by decide) (by decide)]; exact b5
  · rw [h68 22 (by decide)]; exact a5
  · rw [h68 50 (by decide)]; exact a6
  · have hj := a7 h
    unfold MJ MIm at hj ⊢
    rw [h68 51 (by decide), h68 52 (by decide), hA 99 (by decide) (by decide) (by decide) (by decide) (by decide), hA 100 (by decide) (by decide) (by decide) (by decide) (by decide), hA 101 (by decide) (by decide) (by decide) (by decide) (by decide), hA 102 (by decide) (by decide) (by decide) (by decide) (by decide), hA 103 (by decide) (by decide) (by decide) (by decide) (by decide)]; exact hj
theorem CI_sc (hc : c ≤ c') (hs : CScr F A F' A') (hI : CI c F A K n cd cl m tp fp im B B') : CI c' F' A' K n cd cl m tp fp im B B' := CI_cg hc (fun i _ h1 h2 => hs.1 i h1 h2) hs.2.1 (fun i _ h1 h2 h3 => hs.2.2 i h1 h2 h3) hI
theorem CI_hi (hc : c ≤ c') (hF : ∀ i, i < 68 → F' i = F i) (hA : ∀ i, i < 68 → A' i = A i) (hI : CI c F A K n cd cl m tp fp im B B') : CI c' F' A' K n cd cl m tp fp im B B' := CI_cg hc (fun i h _ _ => hF i h) (by rw [hF 18 (by decide)]) (fun i h _ _ _ => hA i h) hI
theorem CI_ms (hc : c ≤ c') (hs : MScr F A F' A') (hI : CI c F A K n cd cl m tp fp im B B') : CI c' F' A' K n cd cl m tp fp im B B' := CI_hi hc (fun i h => hs.1 i (by omega)) (fun i h => hs.2.2.1 i (by omega) (by omega) (by omega)) hI
theorem MI_lo (hF : F' 68 = F 68) (hA : ∀ i, 68 ≤ i → i < 104 → A' i = A i) (hI : MI F A K n cd cl m tp fp im B B') : MI F' A' K n cd cl m tp fp im B B' := MI_cg (fun k _ => by rw [hF]) (fun i h1 h2 _ _ _ => hA i h1 h2) (fun i h1 h2 j _ => by rw [hA i (by omega) (by omega)]) hI
theorem MI_sc (hs : CScr F A F' A') (hI : MI F A K n cd cl m tp fp im B B') : MI F' A' K n cd cl m tp fp im B B' := MI_lo (hs.1 68 (by decide) (by decide)) (fun i h1 _ => hs.2.2 i (by omega) (by omega) (by omega)) hI
theorem MI_ms (hs : MScr F A F' A') (hI : MI F A K n cd cl m tp fp im B B') : MI F' A' K n cd cl m tp fp im B B' := MI_cg hs.2.1 (fun i _ _ h1 h2 h3 => hs.2.2.1 i h1 h2 h3) hs.2.2.2 hI
/-- the law's memory behind c calls -/
def RS (c SL : Nat) (xs : Nat → Int32) (M : pM) : Prop := ∃ p q, Geo M.2.2.2 SL p q ∧ SI c M.1 M.2.1 ∧ M.2.1 2000 = xs ∧ gC M.2.2.2 ≤ 105 + c ∧ gS M.2.2.2 ≤ 20000 + 6 * c
def GE (SL : Nat) (M : pM) : Prop := ∃ p q, Geo M.2.2.2 SL p q
/-- a call of the class, then the reference's: the answers are the same -/
def P0 (c SL : Nat) (xs : Nat → Int32) (d mm : Nat) (mL : List Value) : pR → pM → Prop := fun r M1 => ∃ v, r = .inl (some (.int v)) ∧ GE SL M1 ∧ X d mm 0 mL [] M1 (fun r2 M2 => r2 = .inl (some (.int v)) ∧ RS (c + 1) SL xs M2)
def PL (c SL : Nat) (xs : Nat → Int32) (d mm : Nat) (mL : List Value) : pR → pM → Prop := fun r M1 => ∃ v, r = .inl (some (.long v)) ∧ GE SL M1 ∧ X d mm 0 mL [] M1 (fun r2 M2 => r2 = .inl (some (.long v)) ∧ RS (c + 1) SL xs M2)
def PV (c SL : Nat) (xs : Nat → Int32) (d mm : Nat) (mL : List Value) : pR → pM → Prop := fun r M1 => r = .inl none ∧ GE SL M1 ∧ X d mm 0 mL [] M1 (fun r2 M2 => r2 = .inl none ∧ RS (c + 1) SL xs M2)
/-- the same of a call that may throw: e1 is code 1, e2 code 2 -/
def PE (e1 e2 : Nat) (c SL : Nat) (xs : Nat → Int32) (d mm : Nat) (mL : List Value) : pR → pM → Prop := fun r M1 => ∃ (k : Nat) (v : Int32), (k = 0 ∧ r = .inl (some (.int v)) ∨ k = 1 ∧ r = .inr e1 ∨ k = 2 ∧ e2 ≠ 0 ∧ r = .inr e2) ∧ GE SL M1 ∧ ∀ J1, X d mm 0 mL [] (M1.1, M1.2.1, J1, M1.2.2.2) (fun r2 M2 => ∃ w, r2 = .inl (some (.int w)) ∧ M2.1 68 3 = zI (k : Int) ∧ (k = 0 → w = v) ∧ M2.2.2.1 104 = J1 104 ∧ RS (c + 1) SL xs M2)
def PF (e1 : Nat) (c SL : Nat) (xs : Nat → Int32) (d mm : Nat) (mL : List Value) : pR → pM → Prop := fun r M1 => ∃ (k : Nat) (v : Int64), (k = 0 ∧ r = .inl (some (.long v)) ∨ k = 1 ∧ r = .inr e1) ∧ GE SL M1 ∧ ∀ J1, X d mm 0 mL [] (M1.1, M1.2.1, J1, M1.2.2.2) (fun r2 M2 => ∃ w, r2 = .inl (some (.long w)) ∧ M2.1 68 3 = zI (k : Int) ∧ (k = 0 → w = v) ∧ M2.2.2.1 104 = J1 104 ∧ RS (c + 1) SL xs M2)
end Inv25
