/-! has, as a whole; what it leaves as it was -/
def coH (M : MC) : MC := (fun k => if k = 6 ∨ k = 7 ∨ k = 8 ∨ k = 11 then 0 else M.1 k, fun a => if (50 ≤ a ∧ a ≤ 59) ∨ a = 62 then (fun _ => 0) else M.2 a)
theorem cH_of {α : Type} (f : MC → α) (hf : ∀ N, f (coH N) = f N) {N M : MC} (h : coH N = coH M) : f N = f M := by rw [← hf N, h, hf M]
theorem cH_P (f : MC → Prop) (hf : ∀ N, f (coH N) = f N) {N M : MC} (h : coH N = coH M) (hM : f M) : f N := (cH_of f hf h).mpr hM
theorem coH_coM (N : MC) : coH (coM N) = coH N := by
  unfold coH coM
  refine Prod.ext (funext fun k => ?_) (funext fun a => ?_)
  · show (if k = 6 ∨ k = 7 ∨ k = 8 ∨ k = 11 then 0 else (if k = 6 ∨ k = 7 ∨ k = 8 then 0 else N.1 k)) = (if k = 6 ∨ k = 7 ∨ k = 8 ∨ k = 11 then 0 else N.1 k)
    by_cases e : k = 6 ∨ k = 7 ∨ k = 8 ∨ k = 11
    · rw [if_pos e, if_pos e]
    · rw [if_neg e, if_neg e, if_neg (by omega)]
  · show (if (50 ≤ a ∧ a ≤ 59) ∨ a = 62 then (fun _ => 0) else (if 51 ≤ a ∧ a ≤ 58 then (fun _ => 0) else N.2 a)) = (if (50 ≤ a ∧ a ≤ 59) ∨ a = 62 then (fun _ => 0) else N.2 a)
    by_cases e : (50 ≤ a ∧ a ≤ 59) ∨ a = 62
    · rw [if_pos e, if_pos e]
    · rw [if_neg e, if_neg e, if_neg (by omega)]
theorem cH_co {N M : MC} (h : coM N = coM M) : coH N = coH M := co_of coH coH_coM h
theorem cH_mi {M : MC} {k : Nat} {v : Int32} (h : k = 6 ∨ k = 7 ∨ k = 8 ∨ k = 11) : coH (mi M k v) = coH M := by
  unfold coH
  refine Prod.ext (funext fun j => ?_) rfl
  show (if j = 6 ∨ j = 7 ∨ j = 8 ∨ j = 11 then 0 else upd M.1 k v j) = (if j = 6 ∨ j = 7 ∨ j = 8 ∨ j = 11 then 0 else M.1 j)
  by_cases e : j = 6 ∨ j = 7 ∨ j = 8 ∨ j = 11
  · rw [if_pos e, if_pos e]
  · rw [if_neg e, if_neg e]; exact pk_un (by omega)
theorem cH_up {M : MC} {a : Nat} {f : Nat → Int32} (h : (50 ≤ a ∧ a ≤ 59) ∨ a = 62) : coH (M.1, va_up M.2 a f) = coH M := by
  unfold coH
  refine Prod.ext rfl (funext fun b => ?_)
  show (if (50 ≤ b ∧ b ≤ 59) ∨ b = 62 then (fun _ => 0) else va_up M.2 a f b) = (if (50 ≤ b ∧ b ≤ 59) ∨ b = 62 then (fun _ => 0) else M.2 b)
  by_cases e : (50 ≤ b ∧ b ≤ 59) ∨ b = 62
  · rw [if_pos e, if_pos e]
  · rw [if_neg e, if_neg e]; exact va_up_ne _ _ (by omega)
theorem cH_setL {M : MC} {L : Nat → Int32} : coH (setL M L) = coH M := cH_up (Or.inl (by omega))
theorem cH_setG {M : MC} {I S : Nat → Int32} {m : Nat} : coH (setG M I m S) = coH M :=
  (cH_up (M := (upd M.1 11 (nI m), va_up M.2 62 I)) (Or.inl (by omega))).trans ((cH_up (M := (upd M.1 11 (nI m), M.2)) (Or.inr rfl)).trans (cH_mi (by omega)))
theorem cH_askL (N : MC) : askL (coH N) = askL N := by
  funext f
  induction f with
  | zero => rfl
  | succ f ih =>
    funext p r
    show (if pk N p = 0 then [] else if pk N p = 1 then [(r, (N.2 45 p).toInt)] else (r, lab (pn N p)) :: ((if 1 ≤ cP N (pn N p) then askL (coH N) f (pf N p) (0 :: r) else []) ++ (if 2 ≤ cP N (pn N p) then askL (coH N) f (pg N p) (1 :: r) else []))) = _
    rw [ih]; rfl
theorem cH_fitT (N : MC) : fitT (coH N) = fitT N := by
  funext t p
  show (∀ x ∈ askL (coH N) 13 p [], _) = _
  rw [cH_askL]; rfl
theorem cH_misT (N : MC) : misT (coH N) = misT N := by
  funext t p
  show (∃ x ∈ askL (coH N) 13 p [], _) = _
  rw [cH_askL]; rfl
theorem cH_srt (N : MC) : srt (coH N) = srt N := by
  funext s t r
  cases r with
  | nil => rfl
  | cons k r => rfl
theorem cH_wfT (N : MC) : wfT (coH N) = wfT N := by
  funext s t
  show (∀ r a, t r = some a → ∃ s2, srt (coH N) s t r = some s2 ∧ okA N s2 a) = _
  rw [cH_srt]; rfl
theorem cH_Sat (N : MC) : Sat (coH N) = Sat N := by
  funext s0 ms nv u
  show (∃ t, extT u t ∧ wfT (coH N) s0 t ∧ (∀ p ∈ ms, fitT (coH N) t p) ∧ ∀ p ∈ nv, misT (coH N) t p) = _
  rw [cH_wfT, cH_fitT, cH_misT]; rfl
def HAS (M : MC) (s0 : Nat) : Prop := LV M s0 ∧ Sat M s0 (msL M) (nvL M) (fun _ => none)
theorem setG_self (M : MC) : mi M 11 0 = setG M (M.2 62) 0 (M.2 59) := by
  have e : va_up (va_up M.2 62 (M.2 62)) 59 (M.2 59) = M.2 := funext fun a => by
    by_cases h : a = 59
    · rw [h, va_up_self]
    · rw [va_up_ne _ _ h]
      by_cases h2 : a = 62
      · rw [h2, va_up_self]
      · rw [va_up_ne _ _ h2]
  unfold setG
  rw [e]; rfl
set_option maxHeartbeats 600000 in
set_option maxRecDepth 100000 in
theorem l_M_has1 {K : KC} {o : Nat → Int64} {nc ns : Nat} {d s0 : Nat} {B : MC} (hC : wfC B) (I : Nat → Int32) {post : mj_O → mj_H → Prop} (k : ∀ (S : Nat → Int32) (i : Nat), mj_G y_M_has b_M_has 3 (some .boolean) [] (d + 14) none 43 [(2, .int (nI i)), (0, .ref 38), (1, .int (nI s0))] [] (hp K (setG B I 0 S) o, nc, ns) post) : ∀ (q i : Nat) (S : Nat → Int32), i ≤ mC B → mC B < i + q → mj_G y_M_has b_M_has 3 (some .boolean) [] (d + 14) none 22 [(2, .int (nI i)), (0, .ref 38), (1, .int (nI s0))] [] (hp K (setG B I 0 S) o, nc, ns) post := by
  have hc30 := hC.2.1
  intro q
  induction q with
  | zero => intro i S h1 h2; omega
  | succ q ih =>
    intro i S h1 h2
    refine G_iload_n 0 d_M_has_22 rfl ?_
    refine G_aload_n 1 d_M_has_23 rfl ?_
    refine G_gt d_M_has_24 fr_M_97 (rd_M_cons K (setG B I 0 S) o) ?_
    rw [show (setG B I 0 S).1 2 = nI (mC B) from hC.1]
    refine G_icge 43 d_M_has_27 (by decide) (fun h27 => ?_) (fun h27 => ?_)
    · have h27 := (nI_leI (by omega) (by omega)).mp h27
      exact k S _
    · have h27 : ¬ _ := fun z => h27 ((nI_leI (by omega) (by omega)).mpr z)
      refine G_aload_n 1 d_M_has_30 rfl ?_
      refine G_gt d_M_has_31 fr_M_75 (rd_M_stands K (setG B I 0 S) o) ?_
      refine G_iload_n 0 d_M_has_34 rfl ?_
      refine G_iconst (v := 0) d_M_has_35 (by decide) ?_
      refine G_zasN d_M_has_36 (ar_59 K (setG B I 0 S) o) (by decide) (by omega) rfl (aw_59 K (setG B I 0 S) o i 0) ?_
      rw [setG_59]
      refine G_iinc 0 (v := nI (i + 1)) (ls' := [(2, .int (nI (i + 1))), (0, .ref 38), (1, .int (nI s0))]) d_M_has_37 rfl (nI_1 _) (by decide) rfl ?_
      refine G_goto 22 d_M_has_40 (by decide) ?_
      exact ih (i + 1) _ (by omega) (by omega)
set_option maxHeartbeats 600000 in
set_option maxRecDepth 100000 in
theorem l_M_has3 {K : KC} {o : Nat → Int64} {nc ns : Nat} {d s0 a b : Nat} {B : MC} (hS : wfS B) (hC : wfC B) (hP : wfP B) (hQ : wfQ B s0 a b) {post : mj_O → mj_H → Prop} (k : ∀ (I : Nat → Int32) (m : Nat) (S : Nat → Int32), m ≤ 120 → (∀ c, c < a → ∀ x ∈ labL B 13 ((B.2 60 c).toNatClampNeg), hasL B I m S x) → (∀ c, c < b → ∀ x ∈ labL B 13 ((B.2 61 c).toNatClampNeg), hasL B I m S x) → mj_G y_M_has b_M_has 3 (some .boolean) [] (d + 14) none 100 [(0, .ref 38), (1, .int (nI s0))] [] (hp K (mi (setG B I m S) 7 (nI 0)) o, nc, ns) post) : ∀ (q i : Nat) (I : Nat → Int32) (m : Nat) (S : Nat → Int32), i ≤ b → b < i + q → m ≤ 24 + 12 * i → (∀ c, c < a → ∀ x ∈ labL B 13 ((B.2 60 c).toNatClampNeg), hasL B I m S x) → (∀ c, c < i → ∀ x ∈ labL B 13 ((B.2 61 c).toNatClampNeg), hasL B I m S x) → mj_G y_M_has b_M_has 3 (some .boolean) [] (d + 14) none 71 [(2, .int (nI i)), (0, .ref 38), (1, .int (nI s0))] [] (hp K (setG B I m S) o, nc, ns) post := by
  obtain ⟨ew9, ewa, ew10, ewb, hms, hnv⟩ := id hQ
  intro q
  induction q with
  | zero => intro i I m S h1 h2; omega
  | succ q ih =>
    intro i I m S h1 h2 h3 hh0 hh
    refine G_iload_n 0 d_M_has_71 rfl ?_
    refine G_aload_n 1 d_M_has_72 rfl ?_
    refine G_gt d_M_has_73 fr_M_146 (rd_M_nevers K (setG B I m S) o) ?_
    rw [show (setG B I m S).1 10 = nI b from ew10]
    refine G_icge 95 d_M_has_76 (by decide) (fun h76 => ?_) (fun h76 => ?_)
    · have h76 := (nI_leI (by omega) (by omega)).mp h76
      refine G_aload_n 1 d_M_has_95 rfl ?_
      refine G_iconst (v := nI 0) d_M_has_96 (by decide) ?_
      refine G_pt d_M_has_97 fp_M_136 (wr_M_splits K (setG B I m S) o (nI 0)) ?_
      exact G_sub [1, 2] rfl (k I m S (by omega) hh0 (fun c hc => hh c (by omega)))
    · have h76 : ¬ _ := fun z => h76 ((nI_leI (by omega) (by omega)).mpr z)
      have hi : i < b := by omega
      obtain ⟨p, e61, hpp, hps⟩ := hnv i hi
      have hp12 := (hP.2.2 p hpp).2.2.1.2
      have hpe : p = (B.2 61 i).toNatClampNeg := by rw [e61, nI_clamp (by have := hP.2.1; omega)]
      refine G_aload_n 1 d_M_has_79 rfl ?_
      refine G_aload_n 1 d_M_has_80 rfl ?_
      refine G_gt d_M_has_81 fr_M_81 (rd_M_never K (setG B I m S) o) ?_
      refine G_iload_n 0 d_M_has_84 rfl ?_
      refine G_ialN d_M_has_85 (ar_61 K (setG B I m S) o) (by decide) (by omega) ?_
      rw [show (setG B I m S).2 61 i = nI p from e61]
      refine G_cvp (fun a9 A9 => a9 = none ∧ ∃ (I2 : Nat → Int32) (m2 : Nat) (S2 : Nat → Int32), gth B 13 p I m S I2 m2 S2 ∧ A9 = (hp K (setG B I2 m2 S2) o, nc, ns)) (As := [.int (nI p)]) d_M_has_86 cv_M_149 cw_M_gather (ob_M K _ o) np_M_gather (Nat.le_of_ble_eq_true rfl) (Nat.le_of_ble_eq_true rfl) (fun post2 kk => c_M_gather hS hC hP 13 p (d + 13) I m S hpp (by omega) (by omega) (by omega) (fun I2 m2 S2 hg => kk _ _ ⟨rfl, I2, m2, S2, hg, rfl⟩)) (fun a9 A9 h9 => by obtain ⟨-, I2, m2, S2, -, rfl⟩ := h9; rfl) (fun a9 A9 h9 => ?_)
      obtain ⟨rfl, I2, m2, S2, ⟨g1, g2, g3, g4, g5⟩, rfl⟩ := h9
      refine G_iinc 0 (v := nI (i + 1)) (ls' := [(2, .int (nI (i + 1))), (0, .ref 38), (1, .int (nI s0))]) d_M_has_89 rfl (nI_1 _) (by decide) rfl ?_
      refine G_goto 71 d_M_has_92 (by decide) ?_
      exact ih (i + 1) I2 m2 S2 (by omega) (by omega) (by omega) (fun c hc x hx => hasL_mono (hh0 c hc x hx) g1 g3 g4) (fun c hc x hx => (Nat.lt_succ_iff_lt_or_eq.mp hc).elim (fun z => hasL_mono (hh c z x hx) g1 g3 g4) (fun z => by subst z; rw [← hpe] at hx; exact g5 x hx))
set_option maxHeartbeats 600000 in
set_option maxRecDepth 100000 in
theorem l_M_has2 {K : KC} {o : Nat → Int64} {nc ns : Nat} {d s0 a b : Nat} {B : MC} (hS : wfS B) (hC : wfC B) (hP : wfP B) (hQ : wfQ B s0 a b) {post : mj_O → mj_H → Prop} (k : ∀ (I : Nat → Int32) (m : Nat) (S : Nat → Int32), m ≤ 120 → (∀ c, c < a → ∀ x ∈ labL B 13 ((B.2 60 c).toNatClampNeg), hasL B I m S x) → (∀ c, c < b → ∀ x ∈ labL B 13 ((B.2 61 c).toNatClampNeg), hasL B I m S x) → mj_G y_M_has b_M_has 3 (some .boolean) [] (d + 14) none 100 [(0, .ref 38), (1, .int (nI s0))] [] (hp K (mi (setG B I m S) 7 (nI 0)) o, nc, ns) post) : ∀ (q i : Nat) (I : Nat → Int32) (m : Nat) (S : Nat → Int32), i ≤ a → a < i + q → m ≤ 12 * i → (∀ c, c < i → ∀ x ∈ labL B 13 ((B.2 60 c).toNatClampNeg), hasL B I m S x) → mj_G y_M_has b_M_has 3 (some .boolean) [] (d + 14) none 45 [(2, .int (nI i)), (0, .ref 38), (1, .int (nI s0))] [] (hp K (setG B I m S) o, nc, ns) post := by
  obtain ⟨ew9, ewa, ew10, ewb, hms, hnv⟩ := id hQ
  intro q
  induction q with
  | zero => intro i I m S h1 h2; omega
  | succ q ih =>
    intro i I m S h1 h2 h3 hh
    refine G_iload_n 0 d_M_has_45 rfl ?_
    refine G_aload_n 1 d_M_has_46 rfl ?_
    refine G_gt d_M_has_47 fr_M_143 (rd_M_musts K (setG B I m S) o) ?_
    rw [show (setG B I m S).1 9 = nI a from ew9]
    refine G_icge 69 d_M_has_50 (by decide) (fun h50 => ?_) (fun h50 => ?_)
    · have h50 := (nI_leI (by omega) (by omega)).mp h50
      refine G_iconst (v := nI 0) d_M_has_69 (by decide) ?_
      refine G_istore_n (ls' := [(2, .int (nI 0)), (0, .ref 38), (1, .int (nI s0))]) d_M_has_70 (by decide) rfl ?_
      exact G_sub [0, 1, 2] rfl (l_M_has3 hS hC hP hQ k (b + 1) 0 I m S (by omega) (by omega) (by omega) (fun c hc => hh c (by omega)) (fun c hc => absurd hc (Nat.not_lt_zero c)))
    · have h50 : ¬ _ := fun z => h50 ((nI_leI (by omega) (by omega)).mpr z)
      have hi : i < a := by omega
      obtain ⟨p, e60, hpp, hps⟩ := hms i hi
      have hp12 := (hP.2.2 p hpp).2.2.1.2
      have hpe : p = (B.2 60 i).toNatClampNeg := by rw [e60, nI_clamp (by have := hP.2.1; omega)]
      refine G_aload_n 1 d_M_has_53 rfl ?_
      refine G_aload_n 1 d_M_has_54 rfl ?_
      refine G_gt d_M_has_55 fr_M_78 (rd_M_must K (setG B I m S) o) ?_
      refine G_iload_n 0 d_M_has_58 rfl ?_
      refine G_ialN d_M_has_59 (ar_60 K (setG B I m S) o) (by decide) (by omega) ?_
      rw [show (setG B I m S).2 60 i = nI p from e60]
      refine G_cvp (fun a9 A9 => a9 = none ∧ ∃ (I2 : Nat → Int32) (m2 : Nat) (S2 : Nat → Int32), gth B 13 p I m S I2 m2 S2 ∧ A9 = (hp K (setG B I2 m2 S2) o, nc, ns)) (As := [.int (nI p)]) d_M_has_60 cv_M_149 cw_M_gather (ob_M K _ o) np_M_gather (Nat.le_of_ble_eq_true rfl) (Nat.le_of_ble_eq_true rfl) (fun post2 kk => c_M_gather hS hC hP 13 p (d + 13) I m S hpp (by omega) (by omega) (by omega) (fun I2 m2 S2 hg => kk _ _ ⟨rfl, I2, m2, S2, hg, rfl⟩)) (fun a9 A9 h9 => by obtain ⟨-, I2, m2, S2, -, rfl⟩ := h9; rfl) (fun a9 A9 h9 => ?_)
      obtain ⟨rfl, I2, m2, S2, ⟨g1, g2, g3, g4, g5⟩, rfl⟩ := h9
      refine G_iinc 0 (v := nI (i + 1)) (ls' := [(2, .int (nI (i + 1))), (0, .ref 38), (1, .int (nI s0))]) d_M_has_63 rfl (nI_1 _) (by decide) rfl ?_
      refine G_goto 45 d_M_has_66 (by decide) ?_
      exact ih (i + 1) I2 m2 S2 (by omega) (by omega) (by omega) (fun c hc x hx => (Nat.lt_succ_iff_lt_or_eq.mp hc).elim (fun z => hasL_mono (hh c z x hx) g1 g3 g4) (fun z => by subst z; rw [← hpe] at hx; exact g5 x hx))
set_option maxHeartbeats 600000 in
set_option maxRecDepth 100000 in
theorem l_M_hasE {K : KC} {o : Nat → Int64} {nc ns : Nat} {d s0 : Nat} {N' : MC} (h7 : N'.1 7 = nI 0) {post : mj_O → mj_H → Prop} (k : post (.inl (some (.int 0))) (hp K N' o, nc, ns)) : mj_G y_M_has b_M_has 3 (some .boolean) [] (d + 14) none 176 [(0, .ref 38), (1, .int (nI s0))] [] (hp K N' o, nc, ns) post := by
  refine G_aload_n 0 d_M_has_176 rfl ?_
  refine G_gt d_M_has_177 fr_M_136 (rd_M_splits K (N') o) ?_
  rw [show N'.1 7 = 0 from h7]
  refine G_ifle 223 d_M_has_180 (by decide) (fun _ => ?_) (fun h => absurd h (by decide))
  refine G_aload_n 0 d_M_has_223 rfl ?_
  refine G_gt d_M_has_224 fr_M_136 (rd_M_splits K (N') o) ?_
  rw [show N'.1 7 = 0 from h7]
  refine G_ifne 232 d_M_has_227 (by decide) (fun h => absurd h (by decide)) (fun _ => ?_)
  refine G_iconst (v := 0) d_M_has_230 (by decide) ?_
  exact G_zret d_M_has_231 rfl rfl k
set_option maxHeartbeats 600000 in
set_option maxRecDepth 100000 in
theorem l_M_hasD {K : KC} {M : MC} {o : Nat → Int64} {nc ns : Nat} {d s0 a b m : Nat} {L I S : Nat → Int32} (hS : wfS M) (hC : wfC M) (hP : wfP M) (hQ : wfQ M s0 a b) (hl : LV M s0) (hL : ∀ c, c < mS M → (L c = 1 ∧ LV M c) ∨ (L c = 0 ∧ ¬ LV M c)) (hm : m ≤ 120)
    (h0 : ∀ c, c < a → ∀ x ∈ labL (setL M L) 13 ((M.2 60 c).toNatClampNeg), hasL (setL M L) I m S x) (h1 : ∀ c, c < b → ∀ x ∈ labL (setL M L) 13 ((M.2 61 c).toNatClampNeg), hasL (setL M L) I m S x) {post : mj_O → mj_H → Prop}
    (k1 : ∀ N', coH N' = coH M → HAS M s0 → post (.inl (some (.int 1))) (hp K N' o, nc, ns)) (k0 : ∀ N', coH N' = coH M → ¬ HAS M s0 → post (.inl (some (.int 0))) (hp K N' o, nc, ns)) : mj_G y_M_has b_M_has 3 (some .boolean) [] (d + 14) none 100 [(0, .ref 38), (1, .int (nI s0))] [] (hp K (mi (setG (setL M L) I m S) 7 (nI 0)) o, nc, ns) post := by
  have hc : coH (mi (setG (setL M L) I m S) 7 (nI 0)) = coH M := (cH_mi (by omega)).trans (cH_setG.trans cH_setL)
  generalize hB : mi (setG (setL M L) I m S) 7 (nI 0) = B at hc
  have e7 : B.1 7 = nI 0 := by rw [← hB]; rfl
  have e11 : B.1 11 = nI m := by rw [← hB]; rfl
  have e50 : B.2 50 = L := by rw [← hB]; rfl
  have e59 : B.2 59 = S := by rw [← hB]; rfl
  have e62 : B.2 62 = I := by rw [← hB]; rfl
  have eLV : LV B = LV M := cH_of LV (fun _ => rfl) hc
  have emC : mC B = mC M := cH_of mC (fun _ => rfl) hc
  have emS : mS B = mS M := cH_of mS (fun _ => rfl) hc
  have ems : msL B = msL M := cH_of msL (fun _ => rfl) hc
  have env : nvL B = nvL M := cH_of nvL (fun _ => rfl) hc
  have eSat : Sat B = Sat M := cH_of Sat cH_Sat hc
  have ehl : hasL B = hasL (setL M L) := by
    funext I m S x
    show ((∃ i, i < m ∧ x = (I i).toInt) ∨ (∃ c, c < mC B ∧ x = lab c ∧ S c ≠ 0)) = _
    rw [emC]; rfl
  have eask : askL B = askL (setL M L) := cH_of askL cH_askL (hc.trans cH_setL.symm)
  have hQB : wfQ B s0 a b := cH_P (fun N => wfQ N s0 a b) (fun _ => rfl) hc hQ
  have hE : EV B s0 a b m := by
    refine ⟨cH_P wfS (fun _ => rfl) hc hS, cH_P wfC (fun _ => rfl) hc hC, cH_P wfP (fun _ => rfl) hc hP, hQB, fun c h => ?_, by rw [eLV]; exact hl, e11, by omega, fun p hp x hx => ?_⟩
    · rw [e50, eLV]
      rw [emS] at h
      exact hL c h
    · rw [ehl, e62, e59]
      rw [eask] at hx
      rw [ems, env] at hp
      rcases hp with hp | hp
      · obtain ⟨i, hi, rfl⟩ := (msL_mem hQ).mp hp
        exact h0 i hi _ (askL_lab _ _ _ _ hx)
      · obtain ⟨i, hi, rfl⟩ := (nvL_mem hQ).mp hp
        exact h1 i hi _ (askL_lab _ _ _ _ hx)
  have hmu := mu_le (PL B) (fun _ => none)
  have hpl := PL_len hE.2.2.1 hQB
  refine l_M_dfs hE 121 0 B (by omega) (show mu (PL B) (fun _ => none) < 121 by omega) rfl e7 (fun i hi => absurd hi (Nat.not_lt_zero i)) (fun N' hc' hs => k1 N' ((cH_co hc').trans hc) ?_) (fun N' hc' h7 _ hs => l_M_hasE h7 (k0 N' ((cH_co hc').trans hc) (fun z => hs ?_)))
  · rw [eSat, ems, env] at hs
    exact ⟨hl, hs⟩
  · rw [eSat, ems, env]
    exact z.2
set_option maxHeartbeats 600000 in
set_option maxRecDepth 100000 in
theorem c_M_has {K : KC} {M : MC} {o : Nat → Int64} {nc ns : Nat} {d s0 a b : Nat} (hS : wfS M) (hC : wfC M) (hP : wfP M) (hQ : wfQ M s0 a b) (hs : s0 < mS M) {post : mj_O → mj_H → Prop}
    (k1 : ∀ N', coH N' = coH M → HAS M s0 → post (.inl (some (.int 1))) (hp K N' o, nc, ns)) (k0 : ∀ N', coH N' = coH M → ¬ HAS M s0 → post (.inl (some (.int 0))) (hp K N' o, nc, ns)) : mj_G y_M_has b_M_has 3 (some .boolean) [] (d + 14) none 0 [(0, .ref 38), (1, .int (nI s0))] [] (hp K M o, nc, ns) post := by
  have q12 := hS.2.2
  refine G_aload_n 0 d_M_has_0 rfl ?_
  refine G_cvp (fun a9 A9 => a9 = none ∧ ∃ L : Nat → Int32, (∀ a, a < mS M → (L a = 1 ∧ LV M a) ∨ (L a = 0 ∧ ¬ LV M a)) ∧ A9 = (hp K (setL M L) o, nc, ns)) (As := []) d_M_has_1 cv_M_153 cw_M_live (ob_M K M o) np_M_live (Nat.le_of_ble_eq_true rfl) (Nat.le_of_ble_eq_true rfl) (fun post2 kk => c_M_live hS hC (fun L hL => kk _ _ ⟨rfl, L, hL, rfl⟩)) (fun a9 A9 h9 => by obtain ⟨-, L, -, rfl⟩ := h9; rfl) (fun a9 A9 h9 => ?_)
  obtain ⟨rfl, L, hL, rfl⟩ := h9
  have cS0 := cH_setL (M := M) (L := L)
  refine G_aload_n 0 d_M_has_4 rfl ?_
  refine G_gt d_M_has_5 fr_M_47 (rd_M_lives K (setL M L) o) ?_
  refine G_iload_n 1 d_M_has_8 rfl ?_
  refine G_zalN d_M_has_9 (ar_50 K (setL M L) o) (by decide) (by omega) ?_
  rw [show (setL M L).2 50 s0 = L s0 from rfl]
  refine G_ifne 15 d_M_has_10 (by decide) (fun h10 => ?_) (fun h10 => ?_)
  · refine G_aload_n 0 d_M_has_15 rfl ?_
    refine G_iconst (v := 0) d_M_has_16 (by decide) ?_
    refine G_pt d_M_has_17 fp_M_119 (wr_M_intMany K (setL M L) o 0) ?_
    refine G_iconst (v := nI 0) d_M_has_20 (by decide) ?_
    refine G_istore_n (ls' := [(2, .int (nI 0)), (0, .ref 38), (1, .int (nI s0))]) d_M_has_21 (by decide) rfl ?_
    have hlv : LV M s0 := (hL s0 hs).elim (fun z => z.2) (fun z => absurd z.1 h10)
    rw [setG_self (setL M L)]
    refine G_sub [0, 1, 2] rfl (l_M_has1 (B := setL M L) hC _ (fun S i => ?_) (mC M + 1) 0 _ (by omega) (by show mC M < _; omega))
    refine G_iconst (v := nI 0) d_M_has_43 (by decide) ?_
    refine G_istore_n (ls' := [(2, .int (nI 0)), (0, .ref 38), (1, .int (nI s0))]) d_M_has_44 (by decide) rfl ?_
    exact G_sub [0, 1, 2] rfl (l_M_has2 (B := setL M L) (cH_P wfS (fun _ => rfl) cS0 hS) (cH_P wfC (fun _ => rfl) cS0 hC) (cH_P wfP (fun _ => rfl) cS0 hP) (cH_P (fun N => wfQ N s0 a b) (fun _ => rfl) cS0 hQ) (fun I m S hm h0 h1 => l_M_hasD hS hC hP hQ hlv hL hm h0 h1 k1 k0) (a + 1) 0 _ 0 S (by omega) (by omega) (by omega) (fun c hc => absurd hc (Nat.not_lt_zero c)))
  · refine G_iconst (v := 0) d_M_has_13 (by decide) ?_
    exact G_zret d_M_has_14 rfl rfl (k0 _ cS0 (fun z => (hL s0 hs).elim (fun y => absurd (y.1.symm.trans h10) (by decide)) (fun y => y.2 z.1)))
