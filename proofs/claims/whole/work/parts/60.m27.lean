/-! sort, con, any, number, made of the class -/
set_option maxHeartbeats 600000 in
set_option maxRecDepth 100000 in
theorem c_C_sort {K : KC} {M : MC} {o : Nat → Int64} {nc ns : Nat} {R : MC} {d cs kk : Nat} (hI : IM R cs kk) (hK : RK K R cs kk) (hr1 : nc + 1 ≤ 601024) (hr2 : ns + 6 ≤ 7293034) {post : mj_O → mj_H → Prop} (t : mS R = 12 → post (.inr 1) (hp K M o, nc + 1, ns + 6)) (k : mS R ≠ 12 → ∀ KK, RK KK (sortM R) cs kk → post (.inl (some (.int (nI (mS R))))) (hp KK M o, nc, ns)) : mj_G y_C_sort b_C_sort 1 (some .int) [] (d + 6) none 0 [(0, .ref 0)] [] (hp K M o, nc, ns) post := by
  have q12 := hI.1.2.2
  refine G_aload_n 0 d_C_sort_0 rfl ?_
  refine G_gt d_C_sort_1 fr_C_10 (rd_C_sorts K M o) ?_
  refine G_gt d_C_sort_4 fr_C_35 (rd_S_sortCount K M o) ?_
  rw [show K.1 0 = nI (mS R) from hK.1.1.trans hI.1.1]
  refine G_bipush (v := nI 12) d_C_sort_7 (by decide) ?_
  refine G_iclt 22 d_C_sort_9 (by decide) (fun h9 => ?_) (fun h9 => ?_)
  · have h9 := (nI_ltI (by omega) (by omega)).mp h9
    have hI2 := sort_IM hI (by omega)
    refine G_aload_n 0 d_C_sort_22 rfl ?_
    refine G_gt d_C_sort_23 fr_C_10 (rd_C_sorts K M o) ?_
    refine G_cvp (fun a9 A9 => ∃ KK : KC, a9 = some (.int (nI (mS R))) ∧ A9 = (hp KK M o, nc, ns) ∧ (fr KK (ki K 0 (nI (mS R + 1))) ∧ rL KK (sortM R))) (As := []) d_C_sort_26 cv_C_46 cw_S_addSort (ob_S K M o) np_S_addSort (Nat.le_of_ble_eq_true rfl) (Nat.le_of_ble_eq_true rfl) (fun post2 kq => c_S_addSort (R := sortM R) (n := mS R) (d := d + 5) (hK.1.1.trans hI.1.1) (sort_rL hI hK (by omega)) (fun v9 g9 g8 => kq _ _ ⟨v9, rfl, rfl, g9, g8⟩)) (fun a9 A9 h9 => by obtain ⟨v9, -, rfl, -⟩ := h9; rfl) (fun a9 A9 h9 => ?_)
    obtain ⟨KK, rfl, rfl, g_KK⟩ := h9
    exact G_iret d_C_sort_29 rfl (k (by omega) _ (sort_RK hI hK g_KK.1 (sort_rS hK) g_KK.2))
  · have h9 : ¬ mS R < 12 := fun q => h9 ((nI_ltI (by omega) (by omega)).mpr q)
    exact G_throw (tx := "too many sorts") 1 d_C_sort_12 d_C_sort_15 d_C_sort_16 d_C_sort_18 d_C_sort_21 th_cl1 th_in1 th_ini1 th_s41 mj_tw1 th_ft1 rfl (by omega) (by omega) (by omega) (Nat.le_of_ble_eq_true rfl) (t (by omega))
set_option maxHeartbeats 600000 in
set_option maxRecDepth 100000 in
theorem c_C_con {K : KC} {M : MC} {o : Nat → Int64} {nc ns : Nat} {R : MC} {d cs kk : Nat} (x1 x2 x3 x4 : Int32) (hI : IM R cs kk) (hK : RK K R cs kk) (hr1 : nc + 1 ≤ 601024) (hr2 : ns + 6 ≤ 7293034) {post : mj_O → mj_H → Prop} (t : ¬ rC R x1 x2 x3 x4 → post (.inr 0) (hp K M o, nc + 1, ns + 6)) (t2 : rC R x1 x2 x3 x4 → mC R = 30 → post (.inr 1) (hp K M o, nc + 1, ns + 6)) (k : ∀ s, s < mS R → x1 = nI s → rC R x1 x2 x3 x4 → mC R ≠ 30 → ∀ KK, RK KK (conM (mi R 0 0) (mC R) (nI s) x2 x3 x4) cs kk → post (.inl (some (.int (nI (mC R))))) (hp KK M o, nc, ns)) : mj_G y_C_con b_C_con 5 (some .int) [] (d + 7) none 0 [(0, .ref 0), (1, .int x1), (2, .int x2), (3, .int x3), (4, .int x4)] [] (hp K M o, nc, ns) post := by
  have q12 := hI.1.2.2
  have q30 := hI.2.1.2.1
  refine G_aload_n 0 d_C_con_0 rfl ?_
  refine G_iload_n 1 d_C_con_1 rfl ?_
  refine G_cvT (0 ≤ x1 ∧ x1 < K.1 0) 0 (As := [.int x1]) d_C_con_2 cv_C_50 cw_C_needSort (ob_C K M o) np_C_needSort (Nat.le_of_ble_eq_true rfl) (Nat.le_of_ble_eq_true rfl) rfl (fun post2 k1 k0 => c_C_needSort x1 hr1 hr2 k1 k0) (fun u2 => ?_) (fun u2 => t (fun q => u2 (by rw [hK.1.1]; exact q.2.1)))
  refine G_iload_n 1 d_C_con_5 rfl ?_
  refine G_ifne 19 d_C_con_6 (by decide) (fun h6 => ?_) (fun h6 => ?_)
  · have hx1 : ¬ x1 ≤ 0 := fun q => h6 (Int32.le_antisymm q u2.1)
    refine G_iload_n 2 d_C_con_19 rfl ?_
    refine G_iflt 28 d_C_con_20 (by decide) (fun h20 => ?_) (fun h20 => ?_)
    · exact G_throw (tx := "no such number of parts") 0 d_C_con_28 d_C_con_31 d_C_con_32 d_C_con_34 d_C_con_37 th_cl0 th_in0 th_ini0 th_s59 mj_tw0 th_ft0 rfl (by omega) (by omega) (by omega) (Nat.le_of_ble_eq_true rfl) (t (fun q => q.2.2.1 h20))
    · refine G_iload_n 2 d_C_con_23 rfl ?_
      refine G_iconst (v := 2) d_C_con_24 (by decide) ?_
      refine G_icle 38 d_C_con_25 (by decide) (fun h25 => ?_) (fun h25 => ?_)
      · refine G_iload_n 2 d_C_con_38 rfl ?_
        refine G_ifle 47 d_C_con_39 (by decide) (fun h39 => ?_) (fun h39 => ?_)
        · refine G_iload_n 2 d_C_con_47 rfl ?_
          refine G_iconst (v := 1) d_C_con_48 (by decide) ?_
          refine G_icle 58 d_C_con_49 (by decide) (fun h49 => ?_) (fun h49 => ?_)
          · have hr : rC R x1 x2 x3 x4 := ⟨hx1, (by rw [hK.1.1] at u2; exact u2), h20, (fun q => Int32.not_le.mpr q h25), Or.inl (le0_lt1.mp h39), Or.inl (le1_lt2.mp h49)⟩
            refine G_aload_n 0 d_C_con_58 rfl ?_
            refine G_gt d_C_con_59 fr_C_10 (rd_C_sorts K M o) ?_
            refine G_gt d_C_con_62 fr_C_61 (rd_S_conCount K M o) ?_
            rw [show K.1 1 = nI (mC R) from hK.1.2.1.trans hI.2.1.1]
            refine G_bipush (v := nI 30) d_C_con_65 (by decide) ?_
            refine G_iclt 80 d_C_con_67 (by decide) (fun h67 => ?_) (fun h67 => ?_)
            · have h67 := (nI_ltI (by omega) (by omega)).mp h67
              obtain ⟨s, hs, rfl⟩ := iS_of hI.1 hr.2.1
              have hI2 := con_IM hI hr hs (by omega)
              refine G_aload_n 0 d_C_con_80 rfl ?_
              refine G_gt d_C_con_81 fr_C_10 (rd_C_sorts K M o) ?_
              refine G_iload_n 1 d_C_con_84 rfl ?_
              refine G_iload_n 2 d_C_con_85 rfl ?_
              refine G_iload_n 3 d_C_con_86 rfl ?_
              refine G_iload 4 d_C_con_87 rfl ?_
              refine G_cvp (fun a9 A9 => ∃ KK : KC, a9 = some (.int (nI (mC R))) ∧ A9 = (hp KK M o, nc, ns) ∧ (fr KK (conK K (mC R) s x2 x3 x4) ∧ rL KK (conM (mi R 0 0) (mC R) (nI s) x2 x3 x4))) (As := [.int (nI s), .int x2, .int x3, .int x4]) d_C_con_89 cv_C_66 cw_S_addCon (ob_S K M o) np_S_addCon (Nat.le_of_ble_eq_true rfl) (Nat.le_of_ble_eq_true rfl) (fun post2 kq => c_S_addCon (R := (conM (mi R 0 0) (mC R) (nI s) x2 x3 x4)) (n := mC R) (s := s) (d := d + 3) (hK.1.2.1.trans hI.2.1.1) (by omega) (by omega) hI2.1 hI2.2.1 (con_rS hI hK (by omega)).1 ((con_rS hI hK (by omega)).2 (by omega)) (fun v9 g9 g8 => kq _ _ ⟨v9, rfl, rfl, g9, g8⟩)) (fun a9 A9 h9 => by obtain ⟨v9, -, rfl, -⟩ := h9; rfl) (fun a9 A9 h9 => ?_)
              obtain ⟨KK, rfl, rfl, g_KK⟩ := h9
              exact G_iret d_C_con_92 rfl (k s hs rfl hr (by omega) _ (con_RK hI hK (by omega) (by omega) g_KK.1 g_KK.2))
            · have h67 : ¬ mC R < 30 := fun q => h67 ((nI_ltI (by omega) (by omega)).mpr q)
              exact G_throw (tx := "too many cons") 1 d_C_con_70 d_C_con_73 d_C_con_74 d_C_con_76 d_C_con_79 th_cl1 th_in1 th_ini1 th_s64 mj_tw1 th_ft1 rfl (by omega) (by omega) (by omega) (Nat.le_of_ble_eq_true rfl) (t2 hr (by omega))
          · refine G_aload_n 0 d_C_con_52 rfl ?_
            refine G_iload 4 d_C_con_53 rfl ?_
            refine G_cvT (0 ≤ x4 ∧ x4 < K.1 0) 0 (As := [.int x4]) d_C_con_55 cv_C_50 cw_C_needSort (ob_C K M o) np_C_needSort (Nat.le_of_ble_eq_true rfl) (Nat.le_of_ble_eq_true rfl) rfl (fun post2 k1 k0 => c_C_needSort x4 hr1 hr2 k1 k0) (fun u55 => ?_) (fun u55 => t (fun q => q.2.2.2.2.2.elim (fun z => h49 (le1_lt2.mpr z)) (fun z => u55 (by rw [hK.1.1]; exact z))))
            have hr : rC R x1 x2 x3 x4 := ⟨hx1, (by rw [hK.1.1] at u2; exact u2), h20, (fun q => Int32.not_le.mpr q h25), Or.inl (le0_lt1.mp h39), Or.inr (by rw [hK.1.1] at u55; exact u55)⟩
            refine G_aload_n 0 d_C_con_58 rfl ?_
            refine G_gt d_C_con_59 fr_C_10 (rd_C_sorts K M o) ?_
            refine G_gt d_C_con_62 fr_C_61 (rd_S_conCount K M o) ?_
            rw [show K.1 1 = nI (mC R) from hK.1.2.1.trans hI.2.1.1]
            refine G_bipush (v := nI 30) d_C_con_65 (by decide) ?_
            refine G_iclt 80 d_C_con_67 (by decide) (fun h67 => ?_) (fun h67 => ?_)
            · have h67 := (nI_ltI (by omega) (by omega)).mp h67
              obtain ⟨s, hs, rfl⟩ := iS_of hI.1 hr.2.1
              have hI2 := con_IM hI hr hs (by omega)
              refine G_aload_n 0 d_C_con_80 rfl ?_
              refine G_gt d_C_con_81 fr_C_10 (rd_C_sorts K M o) ?_
              refine G_iload_n 1 d_C_con_84 rfl ?_
              refine G_iload_n 2 d_C_con_85 rfl ?_
              refine G_iload_n 3 d_C_con_86 rfl ?_
              refine G_iload 4 d_C_con_87 rfl ?_
              refine G_cvp (fun a9 A9 => ∃ KK : KC, a9 = some (.int (nI (mC R))) ∧ A9 = (hp KK M o, nc, ns) ∧ (fr KK (conK K (mC R) s x2 x3 x4) ∧ rL KK (conM (mi R 0 0) (mC R) (nI s) x2 x3 x4))) (As := [.int (nI s), .int x2, .int x3, .int x4]) d_C_con_89 cv_C_66 cw_S_addCon (ob_S K M o) np_S_addCon (Nat.le_of_ble_eq_true rfl) (Nat.le_of_ble_eq_true rfl) (fun post2 kq => c_S_addCon (R := (conM (mi R 0 0) (mC R) (nI s) x2 x3 x4)) (n := mC R) (s := s) (d := d + 3) (hK.1.2.1.trans hI.2.1.1) (by omega) (by omega) hI2.1 hI2.2.1 (con_rS hI hK (by omega)).1 ((con_rS hI hK (by omega)).2 (by omega)) (fun v9 g9 g8 => kq _ _ ⟨v9, rfl, rfl, g9, g8⟩)) (fun a9 A9 h9 => by obtain ⟨v9, -, rfl, -⟩ := h9; rfl) (fun a9 A9 h9 => ?_)
              obtain ⟨KK, rfl, rfl, g_KK⟩ := h9
              exact G_iret d_C_con_92 rfl (k s hs rfl hr (by omega) _ (con_RK hI hK (by omega) (by omega) g_KK.1 g_KK.2))
            · have h67 : ¬ mC R < 30 := fun q => h67 ((nI_ltI (by omega) (by omega)).mpr q)
              exact G_throw (tx := "too many cons") 1 d_C_con_70 d_C_con_73 d_C_con_74 d_C_con_76 d_C_con_79 th_cl1 th_in1 th_ini1 th_s64 mj_tw1 th_ft1 rfl (by omega) (by omega) (by omega) (Nat.le_of_ble_eq_true rfl) (t2 hr (by omega))
        · refine G_aload_n 0 d_C_con_42 rfl ?_
          refine G_iload_n 3 d_C_con_43 rfl ?_
          refine G_cvT (0 ≤ x3 ∧ x3 < K.1 0) 0 (As := [.int x3]) d_C_con_44 cv_C_50 cw_C_needSort (ob_C K M o) np_C_needSort (Nat.le_of_ble_eq_true rfl) (Nat.le_of_ble_eq_true rfl) rfl (fun post2 k1 k0 => c_C_needSort x3 hr1 hr2 k1 k0) (fun u44 => ?_) (fun u44 => t (fun q => q.2.2.2.2.1.elim (fun z => h39 (le0_lt1.mpr z)) (fun z => u44 (by rw [hK.1.1]; exact z))))
          refine G_iload_n 2 d_C_con_47 rfl ?_
          refine G_iconst (v := 1) d_C_con_48 (by decide) ?_
          refine G_icle 58 d_C_con_49 (by decide) (fun h49 => ?_) (fun h49 => ?_)
          · have hr : rC R x1 x2 x3 x4 := ⟨hx1, (by rw [hK.1.1] at u2; exact u2), h20, (fun q => Int32.not_le.mpr q h25), Or.inr (by rw [hK.1.1] at u44; exact u44), Or.inl (le1_lt2.mp h49)⟩
            refine G_aload_n 0 d_C_con_58 rfl ?_
            refine G_gt d_C_con_59 fr_C_10 (rd_C_sorts K M o) ?_
            refine G_gt d_C_con_62 fr_C_61 (rd_S_conCount K M o) ?_
            rw [show K.1 1 = nI (mC R) from hK.1.2.1.trans hI.2.1.1]
            refine G_bipush (v := nI 30) d_C_con_65 (by decide) ?_
            refine G_iclt 80 d_C_con_67 (by decide) (fun h67 => ?_) (fun h67 => ?_)
            · have h67 := (nI_ltI (by omega) (by omega)).mp h67
              obtain ⟨s, hs, rfl⟩ := iS_of hI.1 hr.2.1
              have hI2 := con_IM hI hr hs (by omega)
              refine G_aload_n 0 d_C_con_80 rfl ?_
              refine G_gt d_C_con_81 fr_C_10 (rd_C_sorts K M o) ?_
              refine G_iload_n 1 d_C_con_84 rfl ?_
              refine G_iload_n 2 d_C_con_85 rfl ?_
              refine G_iload_n 3 d_C_con_86 rfl ?_
              refine G_iload 4 d_C_con_87 rfl ?_
              refine G_cvp (fun a9 A9 => ∃ KK : KC, a9 = some (.int (nI (mC R))) ∧ A9 = (hp KK M o, nc, ns) ∧ (fr KK (conK K (mC R) s x2 x3 x4) ∧ rL KK (conM (mi R 0 0) (mC R) (nI s) x2 x3 x4))) (As := [.int (nI s), .int x2, .int x3, .int x4]) d_C_con_89 cv_C_66 cw_S_addCon (ob_S K M o) np_S_addCon (Nat.le_of_ble_eq_true rfl) (Nat.le_of_ble_eq_true rfl) (fun post2 kq => c_S_addCon (R := (conM (mi R 0 0) (mC R) (nI s) x2 x3 x4)) (n := mC R) (s := s) (d := d + 3) (hK.1.2.1.trans hI.2.1.1) (by omega) (by omega) hI2.1 hI2.2.1 (con_rS hI hK (by omega)).1 ((con_rS hI hK (by omega)).2 (by omega)) (fun v9 g9 g8 => kq _ _ ⟨v9, rfl, rfl, g9, g8⟩)) (fun a9 A9 h9 => by obtain ⟨v9, -, rfl, -⟩ := h9; rfl) (fun a9 A9 h9 => ?_)
              obtain ⟨KK, rfl, rfl, g_KK⟩ := h9
              exact G_iret d_C_con_92 rfl (k s hs rfl hr (by omega) _ (con_RK hI hK (by omega) (by omega) g_KK.1 g_KK.2))
            · have h67 : ¬ mC R < 30 := fun q => h67 ((nI_ltI (by omega) (by omega)).mpr q)
              exact G_throw (tx := "too many cons") 1 d_C_con_70 d_C_con_73 d_C_con_74 d_C_con_76 d_C_con_79 th_cl1 th_in1 th_ini1 th_s64 mj_tw1 th_ft1 rfl (by omega) (by omega) (by omega) (Nat.le_of_ble_eq_true rfl) (t2 hr (by omega))
          · refine G_aload_n 0 d_C_con_52 rfl ?_
            refine G_iload 4 d_C_con_53 rfl ?_
            refine G_cvT (0 ≤ x4 ∧ x4 < K.1 0) 0 (As := [.int x4]) d_C_con_55 cv_C_50 cw_C_needSort (ob_C K M o) np_C_needSort (Nat.le_of_ble_eq_true rfl) (Nat.le_of_ble_eq_true rfl) rfl (fun post2 k1 k0 => c_C_needSort x4 hr1 hr2 k1 k0) (fun u55 => ?_) (fun u55 => t (fun q => q.2.2.2.2.2.elim (fun z => h49 (le1_lt2.mpr z)) (fun z => u55 (by rw [hK.1.1]; exact z))))
            have hr : rC R x1 x2 x3 x4 := ⟨hx1, (by rw [hK.1.1] at u2; exact u2), h20, (fun q => Int32.not_le.mpr q h25), Or.inr (by rw [hK.1.1] at u44; exact u44), Or.inr (by rw [hK.1.1] at u55; exact u55)⟩
            refine G_aload_n 0 d_C_con_58 rfl ?_
            refine G_gt d_C_con_59 fr_C_10 (rd_C_sorts K M o) ?_
            refine G_gt d_C_con_62 fr_C_61 (rd_S_conCount K M o) ?_
            rw [show K.1 1 = nI (mC R) from hK.1.2.1.trans hI.2.1.1]
            refine G_bipush (v := nI 30) d_C_con_65 (by decide) ?_
            refine G_iclt 80 d_C_con_67 (by decide) (fun h67 => ?_) (fun h67 => ?_)
            · have h67 := (nI_ltI (by omega) (by omega)).mp h67
              obtain ⟨s, hs, rfl⟩ := iS_of hI.1 hr.2.1
              have hI2 := con_IM hI hr hs (by omega)
              refine G_aload_n 0 d_C_con_80 rfl ?_
              refine G_gt d_C_con_81 fr_C_10 (rd_C_sorts K M o) ?_
              refine G_iload_n 1 d_C_con_84 rfl ?_
              refine G_iload_n 2 d_C_con_85 rfl ?_
              refine G_iload_n 3 d_C_con_86 rfl ?_
              refine G_iload 4 d_C_con_87 rfl ?_
              refine G_cvp (fun a9 A9 => ∃ KK : KC, a9 = some (.int (nI (mC R))) ∧ A9 = (hp KK M o, nc, ns) ∧ (fr KK (conK K (mC R) s x2 x3 x4) ∧ rL KK (conM (mi R 0 0) (mC R) (nI s) x2 x3 x4))) (As := [.int (nI s), .int x2, .int x3, .int x4]) d_C_con_89 cv_C_66 cw_S_addCon (ob_S K M o) np_S_addCon (Nat.le_of_ble_eq_true rfl) (Nat.le_of_ble_eq_true rfl) (fun post2 kq => c_S_addCon (R := (conM (mi R 0 0) (mC R) (nI s) x2 x3 x4)) (n := mC R) (s := s) (d := d + 3) (hK.1.2.1.trans hI.2.1.1) (by omega) (by omega) hI2.1 hI2.2.1 (con_rS hI hK (by omega)).1 ((con_rS hI hK (by omega)).2 (by omega)) (fun v9 g9 g8 => kq _ _ ⟨v9, rfl, rfl, g9, g8⟩)) (fun a9 A9 h9 => by obtain ⟨v9, -, rfl, -⟩ := h9; rfl) (fun a9 A9 h9 => ?_)
              obtain ⟨KK, rfl, rfl, g_KK⟩ := h9
              exact G_iret d_C_con_92 rfl (k s hs rfl hr (by omega) _ (con_RK hI hK (by omega) (by omega) g_KK.1 g_KK.2))
            · have h67 : ¬ mC R < 30 := fun q => h67 ((nI_ltI (by omega) (by omega)).mpr q)
              exact G_throw (tx := "too many cons") 1 d_C_con_70 d_C_con_73 d_C_con_74 d_C_con_76 d_C_con_79 th_cl1 th_in1 th_ini1 th_s64 mj_tw1 th_ft1 rfl (by omega) (by omega) (by omega) (Nat.le_of_ble_eq_true rfl) (t2 hr (by omega))
      · exact G_throw (tx := "no such number of parts") 0 d_C_con_28 d_C_con_31 d_C_con_32 d_C_con_34 d_C_con_37 th_cl0 th_in0 th_ini0 th_s59 mj_tw0 th_ft0 rfl (by omega) (by omega) (by omega) (Nat.le_of_ble_eq_true rfl) (t (fun q => q.2.2.2.1 (Int32.not_le.mp h25)))
  · exact G_throw (tx := "the ints have no cons") 0 d_C_con_9 d_C_con_12 d_C_con_13 d_C_con_15 d_C_con_18 th_cl0 th_in0 th_ini0 th_s56 mj_tw0 th_ft0 rfl (by omega) (by omega) (by omega) (Nat.le_of_ble_eq_true rfl) (t (fun q => q.1 (by rw [h6]; exact Int32.le_refl _)))
theorem patK_o {K : KC} {n : Nat} {a s t z : Int32} : (∀ k, k ≠ 4 → (patK K n a s t z).1 k = K.1 k) ∧ (∀ b, (b < 8 ∨ 13 < b) → (patK K n a s t z).2.1 b = K.2.1 b) ∧ (∀ p, p ≠ n → ∀ b, (patK K n a s t z).2.1 b p = K.2.1 b p) := by
  refine ⟨fun k hk => pk_un hk, fun b hb => ?_, fun p hq b => ?_⟩
  · show va_up (va_up (va_up (va_up K.2.1 8 _) 9 _) 10 _) 13 _ b = _
    rw [va_up_ne _ _ (by omega), va_up_ne _ _ (by omega), va_up_ne _ _ (by omega), va_up_ne _ _ (by omega)]
  · have q : ∀ (F : Nat → Nat → Int32) (i : Nat) (v : Int32), va_up F i (upd (F i) n v) b p = F b p := fun F i v => by
      by_cases e : b = i
      · rw [e, va_up_self, pk_un hq]
      · rw [va_up_ne _ _ e]
    exact (q _ _ _).trans ((q _ _ _).trans ((q _ _ _).trans (q _ _ _)))
theorem any_RK {K : KC} {R : MC} {cs kk : Nat} {x : Int32} (hI : IM R cs kk) (hK : RK K R cs kk) : RK (patK K (mP R) 0 x 0 0) (patM (mi R 0 0) (mP R) 0 x 0 0 0 0) cs kk := by
  obtain ⟨o1, o2, o3⟩ := patK_o (K := K) (n := mP R) (a := 0) (s := x) (t := 0) (z := 0)
  exact pat_RK hI hK o1 o2 rfl rfl o3 ⟨pk_us, pk_us, pk_us, pk_us, fun q => absurd q (by decide)⟩ (by decide)
theorem number_RK {K : KC} {R : MC} {cs kk : Nat} {x : Int32} (hI : IM R cs kk) (hK : RK K R cs kk) : RK (patK K (mP R) 1 0 x 1) (patM (mi R 0 0) (mP R) 1 0 x 0 0 1) cs kk := by
  obtain ⟨o1, o2, o3⟩ := patK_o (K := K) (n := mP R) (a := 1) (s := 0) (t := x) (z := 1)
  exact pat_RK hI hK o1 o2 rfl rfl o3 ⟨pk_us, pk_us, pk_us, pk_us, fun q => absurd q (by decide)⟩ (by decide)
theorem any_IM {R : MC} {cs kk : Nat} {x : Int32} (hI : IM R cs kk) (hx : iS R x) (h : mP R ≠ 200) : IM (patM (mi R 0 0) (mP R) 0 x 0 0 0 0) cs kk := by
  obtain ⟨s, hs, rfl⟩ := iS_of hI.1 hx
  have q12 := hI.1.2.2
  refine pat_IM hI h ?_
  have d1 : (patM (mi R 0 0) (mP R) 0 (nI s) 0 0 0 0).2 43 (mP R) = 0 := pk_us
  have d2 : (patM (mi R 0 0) (mP R) 0 (nI s) 0 0 0 0).2 44 (mP R) = nI s := pk_us
  have d6 : (patM (mi R 0 0) (mP R) 0 (nI s) 0 0 0 0).2 48 (mP R) = 0 := pk_us
  unfold okP pk ps pd
  rw [d1, d2, d6, nI_clamp (by omega), show (0 : Int32).toNatClampNeg = 0 from rfl]
  exact ⟨⟨rfl, by omega⟩, ⟨rfl, hs⟩, ⟨rfl, by omega⟩, fun _ => rfl, fun q => absurd q (by decide), fun q => absurd q (by decide)⟩
theorem number_IM {R : MC} {cs kk : Nat} {x : Int32} (hI : IM R cs kk) (h : mP R ≠ 200) : IM (patM (mi R 0 0) (mP R) 1 0 x 0 0 1) cs kk := by
  have q1 := hI.1.2.1
  refine pat_IM hI h ?_
  have d1 : (patM (mi R 0 0) (mP R) 1 0 x 0 0 1).2 43 (mP R) = 1 := pk_us
  have d2 : (patM (mi R 0 0) (mP R) 1 0 x 0 0 1).2 44 (mP R) = 0 := pk_us
  have d6 : (patM (mi R 0 0) (mP R) 1 0 x 0 0 1).2 48 (mP R) = 1 := pk_us
  unfold okP pk ps pd
  rw [d1, d2, d6, show (0 : Int32).toNatClampNeg = 0 from rfl, show (1 : Int32).toNatClampNeg = 1 from rfl]
  exact ⟨⟨rfl, by omega⟩, ⟨rfl, q1⟩, ⟨rfl, by omega⟩, fun q => absurd q (by decide), fun _ => ⟨rfl, rfl⟩, fun q => absurd q (by decide)⟩
set_option maxHeartbeats 600000 in
set_option maxRecDepth 100000 in
theorem c_C_any {K : KC} {M : MC} {o : Nat → Int64} {nc ns : Nat} {R : MC} {d cs kk : Nat} (x : Int32) (hI : IM R cs kk) (hK : RK K R cs kk) (hr1 : nc + 1 ≤ 601024) (hr2 : ns + 6 ≤ 7293034) {post : mj_O → mj_H → Prop} (t : ¬ iS R x → post (.inr 0) (hp K M o, nc + 1, ns + 6)) (t2 : iS R x → mP R = 200 → post (.inr 1) (hp K M o, nc + 1, ns + 6)) (k : iS R x → mP R ≠ 200 → ∀ KK, RK KK (patM (mi R 0 0) (mP R) 0 x 0 0 0 0) cs kk → post (.inl (some (.int (nI (mP R))))) (hp KK M o, nc, ns)) : mj_G y_C_any b_C_any 2 (some .int) [] (d + 7) none 0 [(0, .ref 0), (1, .int x)] [] (hp K M o, nc, ns) post := by
  have q200 := hI.2.2.1.2.1
  refine G_aload_n 0 d_C_any_0 rfl ?_
  refine G_iload_n 1 d_C_any_1 rfl ?_
  refine G_cvT (0 ≤ x ∧ x < K.1 0) 0 (As := [.int x]) d_C_any_2 cv_C_50 cw_C_needSort (ob_C K M o) np_C_needSort (Nat.le_of_ble_eq_true rfl) (Nat.le_of_ble_eq_true rfl) rfl (fun post2 k1 k0 => c_C_needSort x hr1 hr2 k1 k0) (fun u2 => ?_) (fun u2 => t (fun q => u2 (by rw [hK.1.1]; exact q)))
  refine G_aload_n 0 d_C_any_5 rfl ?_
  refine G_iconst (v := 0) d_C_any_6 (by decide) ?_
  refine G_cvT (mP R ≠ 200 ∧ 0 ≤ 12) 1 (As := [.int 0]) d_C_any_7 cv_C_70 cw_C_needRoomForPattern (ob_C K M o) np_C_needRoomForPattern (Nat.le_of_ble_eq_true rfl) (Nat.le_of_ble_eq_true rfl) rfl (fun post2 k1 k0 => c_C_needRoom (n := mP R) 0 (hK.2.2.2.1.1.trans hI.2.2.1.1) hI.2.2.1.2.1 hr1 hr2 k1 k0) (fun u7 => ?_) (fun u7 => t2 (by rw [hK.1.1] at u2; exact u2) (Classical.byContradiction fun q => u7 ⟨q, by decide⟩))
  have hn7 := u7.1
  refine G_aload_n 0 d_C_any_10 rfl ?_
  refine G_gt d_C_any_11 fr_C_19 (rd_C_patterns K M o) ?_
  refine G_iload_n 1 d_C_any_14 rfl ?_
  refine G_cv1 (some (.int (nI (mP R)))) (hp (patK K (mP R) 0 x 0 0) M o, nc, ns) (As := [.int x]) d_C_any_15 cv_C_73 cw_P_addAny (ob_P K M o) np_P_addAny (Nat.le_of_ble_eq_true rfl) (Nat.le_of_ble_eq_true rfl) (fun post2 k2 => c_P_addAny (n := mP R) x (hK.2.2.2.1.1.trans hI.2.2.1.1) (by omega) k2) rfl ?_
  exact G_iret d_C_any_18 rfl (k (by rw [hK.1.1] at u2; exact u2) u7.1 _ (any_RK hI hK))
set_option maxHeartbeats 600000 in
set_option maxRecDepth 100000 in
theorem c_C_number {K : KC} {M : MC} {o : Nat → Int64} {nc ns : Nat} {R : MC} {d cs kk : Nat} (x : Int32) (hI : IM R cs kk) (hK : RK K R cs kk) (hr1 : nc + 1 ≤ 601024) (hr2 : ns + 6 ≤ 7293034) {post : mj_O → mj_H → Prop} (t2 : mP R = 200 → post (.inr 1) (hp K M o, nc + 1, ns + 6)) (k : mP R ≠ 200 → ∀ KK, RK KK (patM (mi R 0 0) (mP R) 1 0 x 0 0 1) cs kk → post (.inl (some (.int (nI (mP R))))) (hp KK M o, nc, ns)) : mj_G y_C_number b_C_number 2 (some .int) [] (d + 7) none 0 [(0, .ref 0), (1, .int x)] [] (hp K M o, nc, ns) post := by
  have q200 := hI.2.2.1.2.1
  refine G_aload_n 0 d_C_number_0 rfl ?_
  refine G_iconst (v := 1) d_C_number_1 (by decide) ?_
  refine G_cvT (mP R ≠ 200 ∧ 1 ≤ 12) 1 (As := [.int 1]) d_C_number_2 cv_C_70 cw_C_needRoomForPattern (ob_C K M o) np_C_needRoomForPattern (Nat.le_of_ble_eq_true rfl) (Nat.le_of_ble_eq_true rfl) rfl (fun post2 k1 k0 => c_C_needRoom (n := mP R) 1 (hK.2.2.2.1.1.trans hI.2.2.1.1) hI.2.2.1.2.1 hr1 hr2 k1 k0) (fun u2 => ?_) (fun u2 => t2 (Classical.byContradiction fun q => u2 ⟨q, by decide⟩))
  have hn7 := u2.1
  refine G_aload_n 0 d_C_number_5 rfl ?_
  refine G_gt d_C_number_6 fr_C_19 (rd_C_patterns K M o) ?_
  refine G_iload_n 1 d_C_number_9 rfl ?_
  refine G_cv1 (some (.int (nI (mP R)))) (hp (patK K (mP R) 1 0 x 1) M o, nc, ns) (As := [.int x]) d_C_number_10 cv_C_77 cw_P_addNumber (ob_P K M o) np_P_addNumber (Nat.le_of_ble_eq_true rfl) (Nat.le_of_ble_eq_true rfl) (fun post2 k2 => c_P_addNumber (n := mP R) x (hK.2.2.2.1.1.trans hI.2.2.1.1) (by omega) k2) rfl ?_
  exact G_iret d_C_number_13 rfl (k u2.1 _ (number_RK hI hK))
theorem made_RK {K : KC} {R : MC} {cs kk c : Nat} {x2 x3 z : Int32} (hI : IM R cs kk) (hK : RK K R cs kk) : RK (ka (ka (patK K (mP R) 2 (R.2 39 c) (nI c) z) 11 (mP R) x2) 12 (mP R) x3) (patM (mi R 0 0) (mP R) 2 (R.2 39 c) (nI c) x2 x3 z) cs kk := by
  obtain ⟨o1, o2, o3⟩ := patK_o (K := K) (n := mP R) (a := 2) (s := R.2 39 c) (t := nI c) (z := z)
  refine pat_RK hI hK o1 (fun b hb => ?_) rfl rfl (fun p hq b => ?_) ⟨pk_us, pk_us, pk_us, pk_us, fun q => ⟨pk_us, pk_us⟩⟩ (by decide)
  · show va_up (va_up (patK K (mP R) 2 (R.2 39 c) (nI c) z).2.1 11 _) 12 _ b = _
    rw [va_up_ne _ _ (by omega), va_up_ne _ _ (by omega)]; exact o2 b hb
  · have q : ∀ (F : Nat → Nat → Int32) (i : Nat) (v : Int32), va_up F i (upd (F i) (mP R) v) b p = F b p := fun F i v => by
      by_cases e : b = i
      · rw [e, va_up_self, pk_un hq]
      · rw [va_up_ne _ _ e]
    exact (q _ _ _).trans ((q _ _ _).trans (o3 p hq b))
theorem made_IM {R : MC} {cs kk c z : Nat} {x2 x3 : Int32} (hI : IM R cs kk) (h : mP R ≠ 200) (hc : c < mC R) (hz : z ≤ 12) (hF : 1 ≤ cP R c → ∃ p, p < mP R ∧ x2 = nI p ∧ ps R p = cF R c) (hG : 2 ≤ cP R c → ∃ p, p < mP R ∧ x3 = nI p ∧ ps R p = cG R c) (hzz : z = 1 + (if 1 ≤ cP R c then pd R x2.toNatClampNeg else 0) + (if 2 ≤ cP R c then pd R x3.toNatClampNeg else 0)) : IM (patM (mi R 0 0) (mP R) 2 (R.2 39 c) (nI c) x2 x3 (nI z)) cs kk := by
  have q200 := hI.2.2.1.2.1
  have q30 := hI.2.1.2.1
  have q12 := hI.1.2.2
  have hg := pat_gro (R := R) (a := 2) (s := R.2 39 c) (t := nI c) (f := x2) (g := x3) (z := nI z) q200
  obtain ⟨⟨c1, c2, c3⟩, -⟩ := hI.2.1.2.2 c hc
  refine pat_IM hI h ?_
  have d1 : (patM (mi R 0 0) (mP R) 2 (R.2 39 c) (nI c) x2 x3 (nI z)).2 43 (mP R) = 2 := pk_us
  have d2 : (patM (mi R 0 0) (mP R) 2 (R.2 39 c) (nI c) x2 x3 (nI z)).2 44 (mP R) = R.2 39 c := pk_us
  have d3 : (patM (mi R 0 0) (mP R) 2 (R.2 39 c) (nI c) x2 x3 (nI z)).2 45 (mP R) = nI c := pk_us
  have d4 : (patM (mi R 0 0) (mP R) 2 (R.2 39 c) (nI c) x2 x3 (nI z)).2 46 (mP R) = x2 := pk_us
  have d5 : (patM (mi R 0 0) (mP R) 2 (R.2 39 c) (nI c) x2 x3 (nI z)).2 47 (mP R) = x3 := pk_us
  have d6 : (patM (mi R 0 0) (mP R) 2 (R.2 39 c) (nI c) x2 x3 (nI z)).2 48 (mP R) = nI z := pk_us
  have hpn : pn (patM (mi R 0 0) (mP R) 2 (R.2 39 c) (nI c) x2 x3 (nI z)) (mP R) = c := by
    unfold pn; rw [d3, nI_clamp (by omega)]
  have hpf : pf (patM (mi R 0 0) (mP R) 2 (R.2 39 c) (nI c) x2 x3 (nI z)) (mP R) = x2.toNatClampNeg := by
    unfold pf; rw [d4]
  have hpg : pg (patM (mi R 0 0) (mP R) 2 (R.2 39 c) (nI c) x2 x3 (nI z)) (mP R) = x3.toNatClampNeg := by
    unfold pg; rw [d5]
  have hpd : pd (patM (mi R 0 0) (mP R) 2 (R.2 39 c) (nI c) x2 x3 (nI z)) (mP R) = z := by
    unfold pd; rw [d6, nI_clamp (by omega)]
  have hpk : pk (patM (mi R 0 0) (mP R) 2 (R.2 39 c) (nI c) x2 x3 (nI z)) (mP R) = 2 := by
    unfold pk; rw [d1]; rfl
  have hps : ps (patM (mi R 0 0) (mP R) 2 (R.2 39 c) (nI c) x2 x3 (nI z)) (mP R) = cS R c := by
    unfold ps; rw [d2]
  unfold okP
  rw [hpn, hpf, hpg, hpd, hpk, hps, d1, d2, d3, d4, d5, d6]
  refine ⟨⟨rfl, by omega⟩, ⟨c1, c3⟩, ⟨rfl, hz⟩, fun q => absurd q (by decide), fun q => absurd q (by decide), fun _ => ⟨⟨rfl, hc, rfl⟩, fun e => ?_, fun e => ?_, ?_⟩⟩
  · obtain ⟨p, p1, rfl, p3⟩ := hF e
    rw [nI_clamp (by omega)]
    exact ⟨rfl, p1, by rw [(gro_p hg p1).2.1]; exact p3⟩
  · obtain ⟨p, p1, rfl, p3⟩ := hG e
    rw [nI_clamp (by omega)]
    exact ⟨rfl, p1, by rw [(gro_p hg p1).2.1]; exact p3⟩
  · refine hzz.trans ?_
    show _ = 1 + (if 1 ≤ cP R c then _ else 0) + (if 2 ≤ cP R c then _ else 0)
    congr 1
    · congr 1
      by_cases e : 1 ≤ cP R c
      · obtain ⟨p, p1, rfl, p3⟩ := hF e
        rw [if_pos e, if_pos e, nI_clamp (by omega), (gro_p hg p1).2.2.2.2.2]
      · rw [if_neg e, if_neg e]
    · by_cases e : 2 ≤ cP R c
      · obtain ⟨p, p1, rfl, p3⟩ := hG e
        rw [if_pos e, if_pos e, nI_clamp (by omega), (gro_p hg p1).2.2.2.2.2]
      · rw [if_neg e, if_neg e]
set_option maxHeartbeats 600000 in
set_option maxRecDepth 100000 in
theorem c_C_madeN {K : KC} {M : MC} {o : Nat → Int64} {nc ns : Nat} {R : MC} {d cs kk : Nat} (x1 x2 x3 : Int32) (hI : IM R cs kk) (hK : RK K R cs kk) (h : ¬ (0 ≤ x1 ∧ x1 < R.1 2)) (hr1 : nc + 1 ≤ 601024) (hr2 : ns + 6 ≤ 7293034) {post : mj_O → mj_H → Prop} (t : post (.inr 0) (hp K M o, nc + 1, ns + 6)) : mj_G y_C_made b_C_made 6 (some .int) [] (d + 8) none 0 [(0, .ref 0), (1, .int x1), (2, .int x2), (3, .int x3)] [] (hp K M o, nc, ns) post := by
  refine G_aload_n 0 d_C_made_0 rfl ?_
  refine G_gt d_C_made_1 fr_C_10 (rd_C_sorts K M o) ?_
  refine G_iload_n 1 d_C_made_4 rfl ?_
  refine G_cvB (0 ≤ x1 ∧ x1 < K.1 1) (As := [.int x1]) d_C_made_5 cv_C_80 cw_S_hasCon (ob_S K M o) np_S_hasCon (Nat.le_of_ble_eq_true rfl) (Nat.le_of_ble_eq_true rfl) (fun post2 k1 k0 => c_S_hasCon x1 k1 k0) (fun u5 => ?_) (fun u5 => ?_)
  · exact absurd (by rw [hK.1.2.1] at u5; exact u5) h
  · refine G_ifne 21 d_C_made_8 (by decide) (fun h => absurd h (by decide)) (fun _ => ?_)
    exact G_throw (tx := "no such con") 0 d_C_made_11 d_C_made_14 d_C_made_15 d_C_made_17 d_C_made_20 th_cl0 th_in0 th_ini0 th_s84 mj_tw0 th_ft0 rfl (by omega) (by omega) (by omega) (Nat.le_of_ble_eq_true rfl) t
set_option maxHeartbeats 600000 in
set_option maxRecDepth 100000 in
theorem c_C_made0 {K : KC} {M : MC} {o : Nat → Int64} {nc ns : Nat} {R : MC} {d cs kk : Nat} {c : Nat} (x2 x3 : Int32) (hI : IM R cs kk) (hK : RK K R cs kk) (hc : c < mC R) (e40 : R.2 40 c = nI 0) (hr1 : nc + 1 ≤ 601024) (hr2 : ns + 6 ≤ 7293034) {post : mj_O → mj_H → Prop} (t2 : mP R = 200 → post (.inr 1) (hp K M o, nc + 1, ns + 6)) (k : mP R ≠ 200 → ∀ KK, RK KK (patM (mi R 0 0) (mP R) 2 (R.2 39 c) (nI c) x2 x3 (nI (1))) cs kk → post (.inl (some (.int (nI (mP R))))) (hp KK M o, nc, ns)) : mj_G y_C_made b_C_made 6 (some .int) [] (d + 8) none 0 [(0, .ref 0), (1, .int (nI c)), (2, .int x2), (3, .int x3)] [] (hp K M o, nc, ns) post := by
  have q200 := hI.2.2.1.2.1
  have q30 := hI.2.1.2.1
  have q12 := hI.1.2.2
  obtain ⟨-, e4, e5, e6⟩ := hK.1.2.2 c hc
  have hpd12 : ∀ p, p < mP R → pd R p ≤ 12 := fun p hq => (hI.2.2.1.2.2 p hq).2.2.1.2
  refine G_aload_n 0 d_C_made_0 rfl ?_
  refine G_gt d_C_made_1 fr_C_10 (rd_C_sorts K M o) ?_
  refine G_iload_n 1 d_C_made_4 rfl ?_
  refine G_cvB (0 ≤ nI c ∧ nI c < K.1 1) (As := [.int (nI c)]) d_C_made_5 cv_C_80 cw_S_hasCon (ob_S K M o) np_S_hasCon (Nat.le_of_ble_eq_true rfl) (Nat.le_of_ble_eq_true rfl) (fun post2 k1 k0 => c_S_hasCon (nI c) k1 k0) (fun u5 => ?_) (fun u5 => ?_)
  · refine G_ifne 21 d_C_made_8 (by decide) (fun _ => ?_) (fun h => absurd h (by decide))
    refine G_aload_n 0 d_C_made_21 rfl ?_
    refine G_gt d_C_made_22 fr_C_10 (rd_C_sorts K M o) ?_
    refine G_gt d_C_made_25 fr_C_86 (rd_S_partCount K M o) ?_
    refine G_iload_n 1 d_C_made_28 rfl ?_
    refine G_ialN d_C_made_29 (ar_4 K M o) (by decide) (by omega) ?_
    rw [e4, e40]
    refine G_istore (ls' := [(4, .int (nI 0)), (0, .ref 0), (1, .int (nI c)), (2, .int x2), (3, .int x3)]) d_C_made_30 (by decide) rfl ?_
    refine G_iconst (v := nI 1) d_C_made_32 (by decide) ?_
    refine G_istore (ls' := [(5, .int (nI 1)), (4, .int (nI 0)), (0, .ref 0), (1, .int (nI c)), (2, .int x2), (3, .int x3)]) d_C_made_33 (by decide) rfl ?_
    refine G_iload 1 d_C_made_35 rfl ?_
    refine G_ifle 68 d_C_made_37 (by decide) (fun _ => ?_) (fun h => absurd h (by decide))
    refine G_iload 1 d_C_made_68 rfl ?_
    refine G_iconst (v := 1) d_C_made_70 (by decide) ?_
    refine G_icle 102 d_C_made_71 (by decide) (fun _ => ?_) (fun h => absurd h (by decide))
    refine G_aload_n 2 d_C_made_102 rfl ?_
    refine G_iload 0 d_C_made_103 rfl ?_
    refine G_cvT (mP R ≠ 200 ∧ nI (1) ≤ 12) 1 (As := [.int (nI 1)]) d_C_made_105 cv_C_70 cw_C_needRoomForPattern (ob_C K M o) np_C_needRoomForPattern (Nat.le_of_ble_eq_true rfl) (Nat.le_of_ble_eq_true rfl) rfl (fun post2 k1 k0 => c_C_needRoom (n := mP R) (nI (1)) (hK.2.2.2.1.1.trans hI.2.2.1.1) hI.2.2.1.2.1 hr1 hr2 k1 k0) (fun u105 => ?_) (fun u105 => t2 (Classical.byContradiction fun q => u105 ⟨q, by decide⟩))
    have hn7 := u105.1
    refine G_aload_n 2 d_C_made_108 rfl ?_
    refine G_gt d_C_made_109 fr_C_19 (rd_C_patterns K M o) ?_
    refine G_aload_n 2 d_C_made_112 rfl ?_
    refine G_gt d_C_made_113 fr_C_10 (rd_C_sorts K M o) ?_
    refine G_gt d_C_made_116 fr_C_101 (rd_S_conSort K M o) ?_
    refine G_iload_n 3 d_C_made_119 rfl ?_
    refine G_ialN d_C_made_120 (ar_3 K M o) (by decide) (by omega) ?_
    rw [(hK.1.2.2 c hc).1]
    refine G_iload_n 3 d_C_made_121 rfl ?_
    refine G_iload_n 4 d_C_made_122 rfl ?_
    refine G_iload_n 5 d_C_made_123 rfl ?_
    refine G_iload 0 d_C_made_124 rfl ?_
    refine G_cv1 (some (.int (nI (mP R)))) (hp (ka (ka (patK K (mP R) 2 (R.2 39 c) (nI c) (nI (1))) 11 (mP R) x2) 12 (mP R) x3) M o, nc, ns) (As := [.int (R.2 39 c), .int (nI c), .int x2, .int x3, .int (nI 1)]) d_C_made_126 cv_C_104 cw_P_addMade (ob_P K M o) np_P_addMade (Nat.le_of_ble_eq_true rfl) (Nat.le_of_ble_eq_true rfl) (fun post2 k2 => c_P_addMade (n := mP R) (R.2 39 c) (nI c) x2 x3 (nI (1)) (hK.2.2.2.1.1.trans hI.2.2.1.1) (by omega) k2) rfl ?_
    exact G_iret d_C_made_129 rfl (k u105.1 _ (made_RK hI hK))
  · exact absurd ⟨Int32.not_lt.mp (fun z => absurd ((nI_ltI (b := 0) (by omega) (by omega)).mp z) (by omega)), by rw [hK.1.2.1, hI.2.1.1]; exact (nI_ltI (by omega) (by omega)).mpr hc⟩ u5
set_option maxHeartbeats 600000 in
set_option maxRecDepth 100000 in
theorem c_C_made1 {K : KC} {M : MC} {o : Nat → Int64} {nc ns : Nat} {R : MC} {d cs kk : Nat} {c : Nat} (x2 x3 : Int32) (hI : IM R cs kk) (hK : RK K R cs kk) (hc : c < mC R) (e40 : R.2 40 c = nI 1) (hr1 : nc + 1 ≤ 601024) (hr2 : ns + 6 ≤ 7293034) {post : mj_O → mj_H → Prop} (tn : ¬ sP R x2 (R.2 41 c) → post (.inr 0) (hp K M o, nc + 1, ns + 6)) (t2 : ∀ p, p < mP R → x2 = nI p → R.2 44 p = R.2 41 c → (mP R = 200 ∨ ¬ 1 + pd R p ≤ 12) → post (.inr 1) (hp K M o, nc + 1, ns + 6)) (k : ∀ p, p < mP R → x2 = nI p → R.2 44 p = R.2 41 c → mP R ≠ 200 → 1 + pd R p ≤ 12 → ∀ KK, RK KK (patM (mi R 0 0) (mP R) 2 (R.2 39 c) (nI c) x2 x3 (nI (1 + pd R p))) cs kk → post (.inl (some (.int (nI (mP R))))) (hp KK M o, nc, ns)) : mj_G y_C_made b_C_made 6 (some .int) [] (d + 8) none 0 [(0, .ref 0), (1, .int (nI c)), (2, .int x2), (3, .int x3)] [] (hp K M o, nc, ns) post := by
  have q200 := hI.2.2.1.2.1
  have q30 := hI.2.1.2.1
  have q12 := hI.1.2.2
  obtain ⟨-, e4, e5, e6⟩ := hK.1.2.2 c hc
  have hpd12 : ∀ p, p < mP R → pd R p ≤ 12 := fun p hq => (hI.2.2.1.2.2 p hq).2.2.1.2
  refine G_aload_n 0 d_C_made_0 rfl ?_
  refine G_gt d_C_made_1 fr_C_10 (rd_C_sorts K M o) ?_
  refine G_iload_n 1 d_C_made_4 rfl ?_
  refine G_cvB (0 ≤ nI c ∧ nI c < K.1 1) (As := [.int (nI c)]) d_C_made_5 cv_C_80 cw_S_hasCon (ob_S K M o) np_S_hasCon (Nat.le_of_ble_eq_true rfl) (Nat.le_of_ble_eq_true rfl) (fun post2 k1 k0 => c_S_hasCon (nI c) k1 k0) (fun u5 => ?_) (fun u5 => ?_)
  · refine G_ifne 21 d_C_made_8 (by decide) (fun _ => ?_) (fun h => absurd h (by decide))
    refine G_aload_n 0 d_C_made_21 rfl ?_
    refine G_gt d_C_made_22 fr_C_10 (rd_C_sorts K M o) ?_
    refine G_gt d_C_made_25 fr_C_86 (rd_S_partCount K M o) ?_
    refine G_iload_n 1 d_C_made_28 rfl ?_
    refine G_ialN d_C_made_29 (ar_4 K M o) (by decide) (by omega) ?_
    rw [e4, e40]
    refine G_istore (ls' := [(4, .int (nI 1)), (0, .ref 0), (1, .int (nI c)), (2, .int x2), (3, .int x3)]) d_C_made_30 (by decide) rfl ?_
    refine G_iconst (v := nI 1) d_C_made_32 (by decide) ?_
    refine G_istore (ls' := [(5, .int (nI 1)), (4, .int (nI 1)), (0, .ref 0), (1, .int (nI c)), (2, .int x2), (3, .int x3)]) d_C_made_33 (by decide) rfl ?_
    refine G_iload 1 d_C_made_35 rfl ?_
    refine G_ifle 68 d_C_made_37 (by decide) (fun h => absurd h (by decide)) (fun _ => ?_)
    refine G_aload_n 2 d_C_made_40 rfl ?_
    refine G_iload_n 4 d_C_made_41 rfl ?_
    refine G_aload_n 2 d_C_made_42 rfl ?_
    refine G_gt d_C_made_43 fr_C_10 (rd_C_sorts K M o) ?_
    refine G_iload_n 3 d_C_made_46 rfl ?_
    refine G_iconst (v := nI 0) d_C_made_47 (by decide) ?_
    refine G_cv1 (some (.int (R.2 41 c))) (hp K M o, nc, ns) (As := [.int (nI c), .int (nI 0)]) d_C_made_48 cv_C_90 cw_S_partSort (ob_S K M o) np_S_partSort (Nat.le_of_ble_eq_true rfl) (Nat.le_of_ble_eq_true rfl) (fun post2 k2 => c_S_partSort0 (by omega) e5 k2) rfl ?_
    refine G_cvT (sP R x2 (R.2 41 c)) 0 (As := [.int x2, .int (R.2 41 c)]) d_C_made_51 cv_C_94 cw_C_needPatternOf (ob_C K M o) np_C_needPatternOf (Nat.le_of_ble_eq_true rfl) (Nat.le_of_ble_eq_true rfl) rfl (fun post2 k1 k0 => c_C_needPat2 x2 (R.2 41 c) hK.2.2.2.1 hI.2.2.1 hr1 hr2 k1 k0) (fun u51 => ?_) (fun u51 => tn u51)
    obtain ⟨p, hp1, rfl⟩ := iP_of hI.2.2.1 u51.1
    have e44 : R.2 44 p = R.2 41 c := by have z := u51.2; rw [nI_clamp (by omega)] at z; exact z
    have hpp := hpd12 p hp1
    refine G_iload 0 d_C_made_54 rfl ?_
    refine G_aload_n 2 d_C_made_56 rfl ?_
    refine G_gt d_C_made_57 fr_C_19 (rd_C_patterns K M o) ?_
    refine G_gt d_C_made_60 fr_C_98 (rd_P_size K M o) ?_
    refine G_iload_n 4 d_C_made_63 rfl ?_
    refine G_ialN d_C_made_64 (ar_13 K M o) (by decide) (by omega) ?_
    rw [show K.2.1 13 p = nI (pd R p) from (hK.2.2.2.1.2 p hp1).2.2.2.1.trans (hI.2.2.1.2.2 p hp1).2.2.1.1]
    refine G_iadd d_C_made_65 ?_
    rw [nI_add]
    refine G_istore (ls' := [(5, .int (nI (1 + pd R p))), (4, .int (nI 1)), (0, .ref 0), (1, .int (nI c)), (2, .int (nI p)), (3, .int x3)]) d_C_made_66 (by decide) rfl ?_
    refine G_iload 1 d_C_made_68 rfl ?_
    refine G_iconst (v := 1) d_C_made_70 (by decide) ?_
    refine G_icle 102 d_C_made_71 (by decide) (fun _ => ?_) (fun h => absurd h (by decide))
    refine G_aload_n 2 d_C_made_102 rfl ?_
    refine G_iload 0 d_C_made_103 rfl ?_
    refine G_cvT (mP R ≠ 200 ∧ nI (1 + pd R p) ≤ 12) 1 (As := [.int (nI (1 + pd R p))]) d_C_made_105 cv_C_70 cw_C_needRoomForPattern (ob_C K M o) np_C_needRoomForPattern (Nat.le_of_ble_eq_true rfl) (Nat.le_of_ble_eq_true rfl) rfl (fun post2 k1 k0 => c_C_needRoom (n := mP R) (nI (1 + pd R p)) (hK.2.2.2.1.1.trans hI.2.2.1.1) hI.2.2.1.2.1 hr1 hr2 k1 k0) (fun u105 => ?_) (fun u105 => t2 p hp1 rfl e44 (Classical.byContradiction fun q => u105 ⟨fun z => q (Or.inl z), (nI_leI (b := 12) (by omega) (by omega)).mpr (Classical.byContradiction fun z => q (Or.inr z))⟩))
    have hn7 := u105.1
    refine G_aload_n 2 d_C_made_108 rfl ?_
    refine G_gt d_C_made_109 fr_C_19 (rd_C_patterns K M o) ?_
    refine G_aload_n 2 d_C_made_112 rfl ?_
    refine G_gt d_C_made_113 fr_C_10 (rd_C_sorts K M o) ?_
    refine G_gt d_C_made_116 fr_C_101 (rd_S_conSort K M o) ?_
    refine G_iload_n 3 d_C_made_119 rfl ?_
    refine G_ialN d_C_made_120 (ar_3 K M o) (by decide) (by omega) ?_
    rw [(hK.1.2.2 c hc).1]
    refine G_iload_n 3 d_C_made_121 rfl ?_
    refine G_iload_n 4 d_C_made_122 rfl ?_
    refine G_iload_n 5 d_C_made_123 rfl ?_
    refine G_iload 0 d_C_made_124 rfl ?_
    refine G_cv1 (some (.int (nI (mP R)))) (hp (ka (ka (patK K (mP R) 2 (R.2 39 c) (nI c) (nI (1 + pd R p))) 11 (mP R) (nI p)) 12 (mP R) x3) M o, nc, ns) (As := [.int (R.2 39 c), .int (nI c), .int (nI p), .int x3, .int (nI (1 + pd R p))]) d_C_made_126 cv_C_104 cw_P_addMade (ob_P K M o) np_P_addMade (Nat.le_of_ble_eq_true rfl) (Nat.le_of_ble_eq_true rfl) (fun post2 k2 => c_P_addMade (n := mP R) (R.2 39 c) (nI c) (nI p) x3 (nI (1 + pd R p)) (hK.2.2.2.1.1.trans hI.2.2.1.1) (by omega) k2) rfl ?_
    exact G_iret d_C_made_129 rfl (k p hp1 rfl e44 u105.1 ((nI_leI (b := 12) (by omega) (by omega)).mp u105.2) _ (made_RK hI hK))
  · exact absurd ⟨Int32.not_lt.mp (fun z => absurd ((nI_ltI (b := 0) (by omega) (by omega)).mp z) (by omega)), by rw [hK.1.2.1, hI.2.1.1]; exact (nI_ltI (by omega) (by omega)).mpr hc⟩ u5
set_option maxHeartbeats 600000 in
set_option maxRecDepth 100000 in
theorem c_C_made2 {K : KC} {M : MC} {o : Nat → Int64} {nc ns : Nat} {R : MC} {d cs kk : Nat} {c : Nat} (x2 x3 : Int32) (hI : IM R cs kk) (hK : RK K R cs kk) (hc : c < mC R) (e40 : R.2 40 c = nI 2) (hr1 : nc + 1 ≤ 601024) (hr2 : ns + 6 ≤ 7293034) {post : mj_O → mj_H → Prop} (tn : ¬ (sP R x2 (R.2 41 c) ∧ sP R x3 (R.2 42 c)) → post (.inr 0) (hp K M o, nc + 1, ns + 6)) (t2 : ∀ p q, p < mP R → q < mP R → x2 = nI p → x3 = nI q → R.2 44 p = R.2 41 c → R.2 44 q = R.2 42 c → (mP R = 200 ∨ ¬ 1 + pd R p + pd R q ≤ 12) → post (.inr 1) (hp K M o, nc + 1, ns + 6)) (k : ∀ p q, p < mP R → q < mP R → x2 = nI p → x3 = nI q → R.2 44 p = R.2 41 c → R.2 44 q = R.2 42 c → mP R ≠ 200 → 1 + pd R p + pd R q ≤ 12 → ∀ KK, RK KK (patM (mi R 0 0) (mP R) 2 (R.2 39 c) (nI c) x2 x3 (nI (1 + pd R p + pd R q))) cs kk → post (.inl (some (.int (nI (mP R))))) (hp KK M o, nc, ns)) : mj_G y_C_made b_C_made 6 (some .int) [] (d + 8) none 0 [(0, .ref 0), (1, .int (nI c)), (2, .int x2), (3, .int x3)] [] (hp K M o, nc, ns) post := by
  have q200 := hI.2.2.1.2.1
  have q30 := hI.2.1.2.1
  have q12 := hI.1.2.2
  obtain ⟨-, e4, e5, e6⟩ := hK.1.2.2 c hc
  have hpd12 : ∀ p, p < mP R → pd R p ≤ 12 := fun p hq => (hI.2.2.1.2.2 p hq).2.2.1.2
  refine G_aload_n 0 d_C_made_0 rfl ?_
  refine G_gt d_C_made_1 fr_C_10 (rd_C_sorts K M o) ?_
  refine G_iload_n 1 d_C_made_4 rfl ?_
  refine G_cvB (0 ≤ nI c ∧ nI c < K.1 1) (As := [.int (nI c)]) d_C_made_5 cv_C_80 cw_S_hasCon (ob_S K M o) np_S_hasCon (Nat.le_of_ble_eq_true rfl) (Nat.le_of_ble_eq_true rfl) (fun post2 k1 k0 => c_S_hasCon (nI c) k1 k0) (fun u5 => ?_) (fun u5 => ?_)
  · refine G_ifne 21 d_C_made_8 (by decide) (fun _ => ?_) (fun h => absurd h (by decide))
    refine G_aload_n 0 d_C_made_21 rfl ?_
    refine G_gt d_C_made_22 fr_C_10 (rd_C_sorts K M o) ?_
    refine G_gt d_C_made_25 fr_C_86 (rd_S_partCount K M o) ?_
    refine G_iload_n 1 d_C_made_28 rfl ?_
    refine G_ialN d_C_made_29 (ar_4 K M o) (by decide) (by omega) ?_
    rw [e4, e40]
    refine G_istore (ls' := [(4, .int (nI 2)), (0, .ref 0), (1, .int (nI c)), (2, .int x2), (3, .int x3)]) d_C_made_30 (by decide) rfl ?_
    refine G_iconst (v := nI 1) d_C_made_32 (by decide) ?_
    refine G_istore (ls' := [(5, .int (nI 1)), (4, .int (nI 2)), (0, .ref 0), (1, .int (nI c)), (2, .int x2), (3, .int x3)]) d_C_made_33 (by decide) rfl ?_
    refine G_iload 1 d_C_made_35 rfl ?_
    refine G_ifle 68 d_C_made_37 (by decide) (fun h => absurd h (by decide)) (fun _ => ?_)
    refine G_aload_n 2 d_C_made_40 rfl ?_
    refine G_iload_n 4 d_C_made_41 rfl ?_
    refine G_aload_n 2 d_C_made_42 rfl ?_
    refine G_gt d_C_made_43 fr_C_10 (rd_C_sorts K M o) ?_
    refine G_iload_n 3 d_C_made_46 rfl ?_
    refine G_iconst (v := nI 0) d_C_made_47 (by decide) ?_
    refine G_cv1 (some (.int (R.2 41 c))) (hp K M o, nc, ns) (As := [.int (nI c), .int (nI 0)]) d_C_made_48 cv_C_90 cw_S_partSort (ob_S K M o) np_S_partSort (Nat.le_of_ble_eq_true rfl) (Nat.le_of_ble_eq_true rfl) (fun post2 k2 => c_S_partSort0 (by omega) e5 k2) rfl ?_
    refine G_cvT (sP R x2 (R.2 41 c)) 0 (As := [.int x2, .int (R.2 41 c)]) d_C_made_51 cv_C_94 cw_C_needPatternOf (ob_C K M o) np_C_needPatternOf (Nat.le_of_ble_eq_true rfl) (Nat.le_of_ble_eq_true rfl) rfl (fun post2 k1 k0 => c_C_needPat2 x2 (R.2 41 c) hK.2.2.2.1 hI.2.2.1 hr1 hr2 k1 k0) (fun u51 => ?_) (fun u51 => tn (fun q => u51 q.1))
    obtain ⟨p, hp1, rfl⟩ := iP_of hI.2.2.1 u51.1
    have e44 : R.2 44 p = R.2 41 c := by have z := u51.2; rw [nI_clamp (by omega)] at z; exact z
    have hpp := hpd12 p hp1
    refine G_iload 0 d_C_made_54 rfl ?_
    refine G_aload_n 2 d_C_made_56 rfl ?_
    refine G_gt d_C_made_57 fr_C_19 (rd_C_patterns K M o) ?_
    refine G_gt d_C_made_60 fr_C_98 (rd_P_size K M o) ?_
    refine G_iload_n 4 d_C_made_63 rfl ?_
    refine G_ialN d_C_made_64 (ar_13 K M o) (by decide) (by omega) ?_
    rw [show K.2.1 13 p = nI (pd R p) from (hK.2.2.2.1.2 p hp1).2.2.2.1.trans (hI.2.2.1.2.2 p hp1).2.2.1.1]
    refine G_iadd d_C_made_65 ?_
    rw [nI_add]
    refine G_istore (ls' := [(5, .int (nI (1 + pd R p))), (4, .int (nI 2)), (0, .ref 0), (1, .int (nI c)), (2, .int (nI p)), (3, .int x3)]) d_C_made_66 (by decide) rfl ?_
    refine G_iload 1 d_C_made_68 rfl ?_
    refine G_iconst (v := 1) d_C_made_70 (by decide) ?_
    refine G_icle 102 d_C_made_71 (by decide) (fun h => absurd h (by decide)) (fun _ => ?_)
    refine G_aload_n 2 d_C_made_74 rfl ?_
    refine G_iload_n 5 d_C_made_75 rfl ?_
    refine G_aload_n 2 d_C_made_76 rfl ?_
    refine G_gt d_C_made_77 fr_C_10 (rd_C_sorts K M o) ?_
    refine G_iload_n 3 d_C_made_80 rfl ?_
    refine G_iconst (v := nI 1) d_C_made_81 (by decide) ?_
    refine G_cv1 (some (.int (R.2 42 c))) (hp K M o, nc, ns) (As := [.int (nI c), .int (nI 1)]) d_C_made_82 cv_C_90 cw_S_partSort (ob_S K M o) np_S_partSort (Nat.le_of_ble_eq_true rfl) (Nat.le_of_ble_eq_true rfl) (fun post2 k2 => c_S_partSort1 (by omega) e6 k2) rfl ?_
    refine G_cvT (sP R x3 (R.2 42 c)) 0 (As := [.int x3, .int (R.2 42 c)]) d_C_made_85 cv_C_94 cw_C_needPatternOf (ob_C K M o) np_C_needPatternOf (Nat.le_of_ble_eq_true rfl) (Nat.le_of_ble_eq_true rfl) rfl (fun post2 k1 k0 => c_C_needPat2 x3 (R.2 42 c) hK.2.2.2.1 hI.2.2.1 hr1 hr2 k1 k0) (fun u85 => ?_) (fun u85 => tn (fun q => u85 q.2))
    obtain ⟨q, hq1, rfl⟩ := iP_of hI.2.2.1 u85.1
    have e45 : R.2 44 q = R.2 42 c := by have z := u85.2; rw [nI_clamp (by omega)] at z; exact z
    have hqq := hpd12 q hq1
    refine G_iload 0 d_C_made_88 rfl ?_
    refine G_aload_n 2 d_C_made_90 rfl ?_
    refine G_gt d_C_made_91 fr_C_19 (rd_C_patterns K M o) ?_
    refine G_gt d_C_made_94 fr_C_98 (rd_P_size K M o) ?_
    refine G_iload_n 5 d_C_made_97 rfl ?_
    refine G_ialN d_C_made_98 (ar_13 K M o) (by decide) (by omega) ?_
    rw [show K.2.1 13 q = nI (pd R q) from (hK.2.2.2.1.2 q hq1).2.2.2.1.trans (hI.2.2.1.2.2 q hq1).2.2.1.1]
    refine G_iadd d_C_made_99 ?_
    rw [nI_add]
    refine G_istore (ls' := [(5, .int (nI (1 + pd R p + pd R q))), (4, .int (nI 2)), (0, .ref 0), (1, .int (nI c)), (2, .int (nI p)), (3, .int (nI q))]) d_C_made_100 (by decide) rfl ?_
    refine G_aload_n 2 d_C_made_102 rfl ?_
    refine G_iload 0 d_C_made_103 rfl ?_
    refine G_cvT (mP R ≠ 200 ∧ nI (1 + pd R p + pd R q) ≤ 12) 1 (As := [.int (nI (1 + pd R p + pd R q))]) d_C_made_105 cv_C_70 cw_C_needRoomForPattern (ob_C K M o) np_C_needRoomForPattern (Nat.le_of_ble_eq_true rfl) (Nat.le_of_ble_eq_true rfl) rfl (fun post2 k1 k0 => c_C_needRoom (n := mP R) (nI (1 + pd R p + pd R q)) (hK.2.2.2.1.1.trans hI.2.2.1.1) hI.2.2.1.2.1 hr1 hr2 k1 k0) (fun u105 => ?_) (fun u105 => t2 p q hp1 hq1 rfl rfl e44 e45 (Classical.byContradiction fun z9 => u105 ⟨fun z => z9 (Or.inl z), (nI_leI (b := 12) (by omega) (by omega)).mpr (Classical.byContradiction fun z => z9 (Or.inr z))⟩))
    have hn7 := u105.1
    refine G_aload_n 2 d_C_made_108 rfl ?_
    refine G_gt d_C_made_109 fr_C_19 (rd_C_patterns K M o) ?_
    refine G_aload_n 2 d_C_made_112 rfl ?_
    refine G_gt d_C_made_113 fr_C_10 (rd_C_sorts K M o) ?_
    refine G_gt d_C_made_116 fr_C_101 (rd_S_conSort K M o) ?_
    refine G_iload_n 3 d_C_made_119 rfl ?_
    refine G_ialN d_C_made_120 (ar_3 K M o) (by decide) (by omega) ?_
    rw [(hK.1.2.2 c hc).1]
    refine G_iload_n 3 d_C_made_121 rfl ?_
    refine G_iload_n 4 d_C_made_122 rfl ?_
    refine G_iload_n 5 d_C_made_123 rfl ?_
    refine G_iload 0 d_C_made_124 rfl ?_
    refine G_cv1 (some (.int (nI (mP R)))) (hp (ka (ka (patK K (mP R) 2 (R.2 39 c) (nI c) (nI (1 + pd R p + pd R q))) 11 (mP R) (nI p)) 12 (mP R) (nI q)) M o, nc, ns) (As := [.int (R.2 39 c), .int (nI c), .int (nI p), .int (nI q), .int (nI (1 + pd R p + pd R q))]) d_C_made_126 cv_C_104 cw_P_addMade (ob_P K M o) np_P_addMade (Nat.le_of_ble_eq_true rfl) (Nat.le_of_ble_eq_true rfl) (fun post2 k2 => c_P_addMade (n := mP R) (R.2 39 c) (nI c) (nI p) (nI q) (nI (1 + pd R p + pd R q)) (hK.2.2.2.1.1.trans hI.2.2.1.1) (by omega) k2) rfl ?_
    exact G_iret d_C_made_129 rfl (k p q hp1 hq1 rfl rfl e44 e45 u105.1 ((nI_leI (b := 12) (by omega) (by omega)).mp u105.2) _ (made_RK hI hK))
  · exact absurd ⟨Int32.not_lt.mp (fun z => absurd ((nI_ltI (b := 0) (by omega) (by omega)).mp z) (by omega)), by rw [hK.1.2.1, hI.2.1.1]; exact (nI_ltI (by omega) (by omega)).mpr hc⟩ u5
