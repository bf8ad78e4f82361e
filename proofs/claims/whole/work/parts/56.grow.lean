/-! what the reference's content says of the class's, and how both grow -/
def gro (R' R : MC) : Prop := mC R ≤ mC R' ∧ mP R ≤ mP R' ∧ (∀ c, c < mC R → R'.2 39 c = R.2 39 c ∧ R'.2 40 c = R.2 40 c ∧ R'.2 41 c = R.2 41 c ∧ R'.2 42 c = R.2 42 c) ∧ ∀ p, p < mP R → R'.2 43 p = R.2 43 p ∧ R'.2 44 p = R.2 44 p ∧ R'.2 45 p = R.2 45 p ∧ R'.2 46 p = R.2 46 p ∧ R'.2 47 p = R.2 47 p ∧ R'.2 48 p = R.2 48 p
theorem gro_c {R' R : MC} (h : gro R' R) {c : Nat} (hc : c < mC R) : cS R' c = cS R c ∧ cP R' c = cP R c ∧ cF R' c = cF R c ∧ cG R' c = cG R c := by
  obtain ⟨a, b, c1, d⟩ := h.2.2.1 c hc
  unfold cS cP cF cG
  rw [a, b, c1, d]; exact ⟨rfl, rfl, rfl, rfl⟩
theorem gro_p {R' R : MC} (h : gro R' R) {p : Nat} (hp1 : p < mP R) : pk R' p = pk R p ∧ ps R' p = ps R p ∧ pn R' p = pn R p ∧ pf R' p = pf R p ∧ pg R' p = pg R p ∧ pd R' p = pd R p := by
  obtain ⟨a, b, c1, d, e, f⟩ := h.2.2.2 p hp1
  unfold pk ps pn pf pg pd
  rw [a, b, c1, d, e, f]; exact ⟨rfl, rfl, rfl, rfl, rfl, rfl⟩
theorem gro_ask {R' R : MC} (h : gro R' R) (hP : wfP R) : ∀ (f p : Nat) (r : List Nat), p < mP R → askL R' f p r = askL R f p r := by
  intro f
  induction f with
  | zero => intro p r _; rfl
  | succ f ih =>
    intro p r hp1
    obtain ⟨⟨-, b43⟩, -, -, w4, w5, w6⟩ := hP.2.2 p hp1
    obtain ⟨g1, g2, g3, g4, g5, g6⟩ := gro_p h hp1
    rcases (show pk R p = 0 ∨ pk R p = 1 ∨ pk R p = 2 by omega) with k | k | k
    · rw [askL_any k, askL_any (g1.trans k)]
    · rw [askL_num k, askL_num (g1.trans k), (h.2.2.2 p hp1).2.2.1]
    · obtain ⟨⟨-, b45, s45⟩, mF, mG, -⟩ := w6 k
      rw [askL_made k, askL_made (g1.trans k), g3, g4, g5, (gro_c h b45).2.1]
      congr 2
      · by_cases e : 1 ≤ cP R (pn R p)
        · rw [if_pos e, if_pos e]
          have := (mF e).2.1
          exact ih _ _ (by omega)
        · rw [if_neg e, if_neg e]
      · by_cases e : 2 ≤ cP R (pn R p)
        · rw [if_pos e, if_pos e]
          have := (mG e).2.1
          exact ih _ _ (by omega)
        · rw [if_neg e, if_neg e]
theorem gro_psrt {R' R : MC} (h : gro R' R) {c k : Nat} (hc : c < mC R) : psrt R' c k = psrt R c k := by
  unfold psrt
  rw [(gro_c h hc).2.2.1, (gro_c h hc).2.2.2]
theorem gro_PLW {R' R : MC} (h : gro R' R) {s0 : Nat} {v : SH} (hv : PLW R s0 v) : PLW R' s0 v := by
  obtain ⟨h1, h2, h3, h4, h5⟩ := hv
  refine ⟨h1, h2, h3, fun j j1 j2 => ?_, h5⟩
  obtain ⟨a, c, k, g1, g2, g3, g4, g5, g6, g7, g8, g9⟩ := h4 j j1 j2
  exact ⟨a, c, k, g1, g2, g3, g4, Nat.lt_of_lt_of_le g5 h.1, by rw [(gro_c h g5).2.1]; exact g6, g7, by rw [gro_psrt h g5]; exact g8, by rw [(gro_c h g5).1]; exact g9⟩
theorem gro_SXI {R' R : MC} (h : gro R' R) (hP : wfP R) {s0 n : Nat} {P P' : Nat → Nat} {X X' : SX} (hn : n ≤ 8) (hPP : ∀ i, i < n → P' i = P i) (hXX : ∀ i, i < 8 → rowX X' i = rowX X i) (hX : SXI R s0 n P X) : SXI R' s0 n P' X' := by
  refine ⟨by rw [hXX 0 (by omega)]; exact gro_PLW h hX.1, fun i hi => ?_⟩
  obtain ⟨g1, g2, g3, g4, g5⟩ := hX.2 i hi
  rw [hPP i hi, hXX i (by omega)]
  refine ⟨Nat.lt_of_lt_of_le g1 h.2.1, by rw [(gro_p h g1).2.1]; exact g2, g3, ?_, ?_⟩
  · rw [gro_ask h hP 13 _ _ g1]; exact g4
  · rw [gro_ask h hP 13 _ _ g1]; exact g5
theorem gro_sWP {R' R : MC} (h : gro R' R) {P P' : Nat → Nat} : ∀ n, (∀ i, i < n → P' i = P i ∧ P i < mP R) → sWP R' P' n = sWP R P n := by
  intro n
  induction n with
  | zero => intro _; rfl
  | succ n ih =>
    intro hq
    show sWP R' P' n + pd R' (P' n) = sWP R P n + pd R (P n)
    rw [ih (fun i hi => hq i (by omega)), (hq n (by omega)).1, (gro_p h (hq n (by omega)).2).2.2.2.2.2]
/-- the class's first sheet is untouched -/
def frS (K' K : KC) : Prop := (∀ k, 10 ≤ k → k < 14 → K'.1 k = K.1 k) ∧ K'.2.2 15 = K.2.2 15 ∧ ∀ a, 17 ≤ a → a < 29 → K'.2.1 a = K.2.1 a
theorem vw0_row {K' K : KC} (h : frS K' K) {np : Nat} {pi : Nat → List Nat} : ∀ i, i < 8 → rowX (vw0 K' np pi) i = rowX (vw0 K np pi) i := fun i hi => by
  unfold rowX vw0
  show ((np, K'.2.2 15 i, K'.2.1 (17 + i)), (K'.2.1 25, K'.2.1 26, K'.2.1 27, K'.2.1 28), pi) = ((np, K.2.2 15 i, K.2.1 (17 + i)), (K.2.1 25, K.2.1 26, K.2.1 27, K.2.1 28), pi)
  rw [h.2.1, h.2.2 (17 + i) (by omega) (by omega), h.2.2 25 (by omega) (by omega), h.2.2 26 (by omega) (by omega), h.2.2 27 (by omega) (by omega), h.2.2 28 (by omega) (by omega)]
theorem gro_SHI0 {R' R : MC} {K' K : KC} (h : gro R' R) (hP : wfP R) {s0 n : Nat} {P P' : Nat → Nat} (hn : n ≤ 8) (hPP : ∀ i, i < n → P' i = P i) (hf : frS K' K) (hS : SHI0 K R s0 n P) : SHI0 K' R' s0 n P' := by
  obtain ⟨np, pi, e1, e2, e3, e4, e5, e6, hI⟩ := hS
  have ew : sWP R' P' n = sWP R P n := gro_sWP h n (fun i hi => ⟨hPP i hi, (hI.2 i hi).1⟩)
  refine ⟨np, pi, (hf.1 10 (by omega) (by omega)).trans e1, (hf.1 11 (by omega) (by omega)).trans e2, (hf.1 12 (by omega) (by omega)).trans e3, ?_, ?_, ?_, gro_SXI h hP hn hPP (vw0_row hf) hI⟩
  · rw [ew, hf.1 13 (by omega) (by omega)]; exact e4
  · rw [ew]; exact e5
  · rw [ew]; exact e6
theorem gro_rfl (R : MC) : gro R R := ⟨Nat.le_refl _, Nat.le_refl _, fun _ _ => ⟨rfl, rfl, rfl, rfl⟩, fun _ _ => ⟨rfl, rfl, rfl, rfl, rfl, rfl⟩⟩
theorem frS_rfl (K : KC) : frS K K := ⟨fun _ _ _ => rfl, rfl, fun _ _ _ => rfl⟩
/-- the reference's content is in order -/
def IM (M : MC) (cs kk : Nat) : Prop := wfS M ∧ wfC M ∧ wfP M ∧ wfK M cs kk
/-- the class's content stands for it -/
def RK (K : KC) (R : MC) (cs kk : Nat) : Prop := rS K R ∧ rO K R ∧ rL K R ∧ rP K R ∧ SHI0 K R cs kk (cl R)
def cz (M : MC) : MC := coR (mi M 0 0)
theorem cz_of {α : Type} (f : MC → α) (hf : ∀ N, f (cz N) = f N) {N M : MC} (h : cz N = cz M) : f N = f M := by rw [← hf N, h, hf M]
theorem cz_P (f : MC → Prop) (hf : ∀ N, f (cz N) = f N) {N M : MC} (h : cz N = cz M) (hM : f M) : f N := (cz_of f hf h).mpr hM
theorem cz_gro {R' R : MC} (h : cz R' = cz R) : gro R' R := by
  have a : ∀ a, (cz R').2 a = (cz R).2 a := fun a => by rw [h]
  have b : ∀ k, (cz R').1 k = (cz R).1 k := fun k => by rw [h]
  have c1 : R'.1 2 = R.1 2 := b 2
  have c2 : R'.1 3 = R.1 3 := b 3
  have a39 : R'.2 39 = R.2 39 := a 39
  have a40 : R'.2 40 = R.2 40 := a 40
  have a41 : R'.2 41 = R.2 41 := a 41
  have a42 : R'.2 42 = R.2 42 := a 42
  have a43 : R'.2 43 = R.2 43 := a 43
  have a44 : R'.2 44 = R.2 44 := a 44
  have a45 : R'.2 45 = R.2 45 := a 45
  have a46 : R'.2 46 = R.2 46 := a 46
  have a47 : R'.2 47 = R.2 47 := a 47
  have a48 : R'.2 48 = R.2 48 := a 48
  refine ⟨?_, ?_, fun c _ => ⟨by rw [a39], by rw [a40], by rw [a41], by rw [a42]⟩, fun p _ => ⟨by rw [a43], by rw [a44], by rw [a45], by rw [a46], by rw [a47], by rw [a48]⟩⟩
  · unfold mC; rw [c1]; exact Nat.le_refl _
  · unfold mP; rw [c2]; exact Nat.le_refl _
theorem cz_IM {R' R : MC} {cs kk : Nat} (h : cz R' = cz R) (hI : IM R cs kk) : IM R' cs kk :=
  ⟨cz_P wfS (fun _ => rfl) h hI.1, cz_P wfC (fun _ => rfl) h hI.2.1, cz_P wfP (fun _ => rfl) h hI.2.2.1, cz_P (fun N => wfK N cs kk) (fun _ => rfl) h hI.2.2.2⟩
theorem cz_RK {K : KC} {R' R : MC} {cs kk : Nat} (h : cz R' = cz R) (hI : IM R cs kk) (hK : RK K R cs kk) : RK K R' cs kk :=
  ⟨cz_P (rS K) (fun _ => rfl) h hK.1, cz_P (rO K) (fun _ => rfl) h hK.2.1, cz_P (rL K) (fun _ => rfl) h hK.2.2.1, cz_P (rP K) (fun _ => rfl) h hK.2.2.2.1,
    gro_SHI0 (cz_gro h) hI.2.2.1 hI.2.2.2.2.1 (fun i _ => by rw [cz_of cl (fun _ => rfl) h]) (frS_rfl K) hK.2.2.2.2⟩
theorem cz_m0 (M : MC) (v : Int32) : cz (mi M 0 v) = cz M := by
  unfold cz
  have : mi (mi M 0 v) 0 0 = mi M 0 0 := by
    unfold mi
    refine Prod.ext (funext fun k => ?_) rfl
    show upd (upd M.1 0 v) 0 0 k = upd M.1 0 0 k
    by_cases e : k = 0
    · rw [e, pk_us, pk_us]
    · rw [pk_un e, pk_un e, pk_un e]
  rw [this]
theorem cz_coR {N M : MC} (h : coR N = coR M) : cz N = cz M := by
  unfold cz
  have e : ∀ N : MC, coR (mi N 0 0) = mi (coR N) 0 0 := fun N => by
    refine Prod.ext (funext fun k => ?_) rfl
    show (if 6 ≤ k ∧ k ≤ 11 then 0 else upd N.1 0 0 k) = upd (fun k => if 6 ≤ k ∧ k ≤ 11 then 0 else N.1 k) 0 0 k
    by_cases e : k = 0
    · subst e; rw [pk_us, pk_us]; rfl
    · rw [pk_un e, pk_un e]
  rw [e, e, h]
theorem RK_fr1 {K' K : KC} {R : MC} {cs kk : Nat} (hI : IM R cs kk) (hf : frH1 K' K) (h : RK K R cs kk) : RK K' R cs kk := by
  obtain ⟨f1, f2, f3⟩ := hf
  obtain ⟨h1, h2, h3, h4, h5⟩ := h
  refine ⟨?_, ?_, ?_, ?_, gro_SHI0 (gro_rfl R) hI.2.2.1 hI.2.2.2.2.1 (fun _ _ => rfl) ⟨fun k _ hk => f1 k (by omega), f3, fun a _ ha => f2 a (by omega)⟩ h5⟩
  · unfold rS
    rw [f1 0 (by omega), f1 1 (by omega), f2 3 (by omega), f2 4 (by omega), f2 5 (by omega), f2 6 (by omega)]; exact h1
  · unfold rO
    rw [f2 2 (by omega)]; exact h2
  · unfold rL
    rw [f1 2 (by omega), f1 3 (by omega)]; exact h3
  · unfold rP
    rw [f1 4 (by omega), f2 8 (by omega), f2 9 (by omega), f2 10 (by omega), f2 11 (by omega), f2 12 (by omega), f2 13 (by omega)]; exact h4
/-- the class's sorts, cons and patterns are untouched -/
theorem RK_fr0 {K' K : KC} {R : MC} (hf : frH0 K' K) (h1 : rS K R) (h2 : rO K R) (h3 : rL K R) (h4 : rP K R) : rS K' R ∧ rO K' R ∧ rL K' R ∧ rP K' R := by
  obtain ⟨f1, f2⟩ := hf
  refine ⟨?_, ?_, ?_, ?_⟩
  · unfold rS
    rw [f1 0 (by omega), f1 1 (by omega), f2 3 (by omega), f2 4 (by omega), f2 5 (by omega), f2 6 (by omega)]; exact h1
  · unfold rO
    rw [f2 2 (by omega)]; exact h2
  · unfold rL
    rw [f1 2 (by omega), f1 3 (by omega)]; exact h3
  · unfold rP
    rw [f1 4 (by omega), f2 8 (by omega), f2 9 (by omega), f2 10 (by omega), f2 11 (by omega), f2 12 (by omega), f2 13 (by omega)]; exact h4
/-- what a sheet's readers want -/
theorem SHI0_X {K : KC} {R : MC} {cs kk : Nat} {P : Nat → Nat} (hS : wfS R) (hC : wfC R) (hP : wfP R) (h : SHI0 K R cs kk P) : ∃ np pi, SXK R cs kk P (vw0 K np pi) ∧ K.1 11 = nI kk ∧ np ≤ 40 ∧ K.1 10 = nI cs ∧ K.1 12 = nI np := by
  obtain ⟨np, pi, e1, e2, e3, e4, e5, e6, hI⟩ := h
  have : np ≤ 40 := by omega
  exact ⟨np, pi, ⟨hS, hC, hP, hI, this⟩, e2, this, e1, e3⟩
theorem SHI1_X {K : KC} {R : MC} {cs kk : Nat} {P : Nat → Nat} (hS : wfS R) (hC : wfC R) (hP : wfP R) (h : SHI1 K R cs kk P) : ∃ np pi, SXK R cs kk P (vw1 K np pi) ∧ K.1 21 = nI kk ∧ np ≤ 24 ∧ K.1 20 = nI cs ∧ K.1 22 = nI np := by
  obtain ⟨np, pi, e1, e2, e3, e4, e5, e6, hI⟩ := h
  have h2 : np ≤ 24 := by omega
  exact ⟨np, pi, ⟨hS, hC, hP, hI, (by show np ≤ 40; omega)⟩, e2, h2, e1, e3⟩
