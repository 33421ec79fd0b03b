set_option maxHeartbeats 4000000 in
set_option maxRecDepth 100000 in
theorem c_X7_does (l : Launch) (E : gE) (mo ma0 ma1 ma2 ma4 ma5 ma7 ma9 ma10 ma11 ma12 ma15 ns mlen mm pl wm : Nat) (gw : Bool) (hh : Int64) (Nw : Nat → Nat) (En : Nat → Option Nat) (Ev : Nat → Nat) (i v : Nat) (hi : i < 14) (hc : Nw (1 + i) = v) (hv : v < 400) (hE : tok En) : FD l E yX7_does cX7_does 4 none { frames := 1, cells := 0, slots := 0, locals := 21 } [.ref mo, .int (nI i)] [(mo, .inr (7, [.ref ma0, .ref ma1, .ref ma2, .int (nI ns), .ref ma4, .ref ma5, .int (nI mlen), .ref ma7, .int (bI gw), .ref ma9, .ref ma10, .ref ma11, .ref ma12, .int (nI mm), .int (nI pl), .ref ma15, .int (nI wm), .long hh])), (ma0, .inl (E.2.1, 15, .inl (aN Nw))), (ma11, .inl (E.2.1, 10, .inl (aO En)))] none [(mo, .inr (7, [.ref ma0, .ref ma1, .ref ma2, .int (nI ns), .ref ma4, .ref ma5, .int (nI mlen), .ref ma7, .int (bI gw), .ref ma9, .ref ma10, .ref ma11, .ref ma12, .int (nI ((rst v (En, Ev, mm)).2.2)), .int (nI pl), .ref ma15, .int (nI wm), .long hh])), (ma0, .inl (E.2.1, 15, .inl (aN Nw))), (ma11, .inl (E.2.1, 10, .inl (aO ((rst v (En, Ev, mm)).1))))] := by
  refine Fn_ofL (own := RX7) (by decide) rfl rfl [(0, .ref mo), (1, .int (nI i))] rfl ?_
  intro p e s m below meth c A C hr hnm
  refine G_aload_n C dX7_does_0 rfl 1 rfl ?_
  refine G_iload_n C dX7_does_1 rfl 2 rfl ?_
  refine G_cV C dX7_does_2 (c_X7_xOf l E mo ma0 ma1 ma2 ma4 ma5 ma7 ma9 ma10 ma11 ma12 ma15 ns mlen mm pl wm gw hh Nw i v (by first | assumption | omega) (by first | assumption | omega) (by first | assumption | omega)) wm_X7_69 wi_X7_xOf wsel_X7_xOf wn_X7 wc_X7_xOf rfl rfl ⟨by decide, by decide, rfl⟩ rfl (Nat.le_of_ble_eq_true rfl) 7 rfl rfl 0 rfl [0, 1] [2] (wr := [(ma11, .inl (E.2.1, 10, .inl (aO En)))]) rfl rfl rfl rfl rfl [1, 2, 0] rfl [(mo, .inr (7, [.ref ma0, .ref ma1, .ref ma2, .int (nI ns), .ref ma4, .ref ma5, .int (nI mlen), .ref ma7, .int (bI gw), .ref ma9, .ref ma10, .ref ma11, .ref ma12, .int (nI mm), .int (nI pl), .ref ma15, .int (nI wm), .long hh])), (ma0, .inl (E.2.1, 15, .inl (aN Nw))), (ma11, .inl (E.2.1, 10, .inl (aO En)))] rfl rfl [.int (nI (v / 10 % 10))] rfl 5 rfl ?_
  refine G_istore_n C dX7_does_5 (by decide) [(2, .int (nI (v / 10 % 10))), (0, .ref mo), (1, .int (nI i))] rfl 6 rfl ?_
  refine G_aload_n C dX7_does_6 rfl 7 rfl ?_
  refine G_iload_n C dX7_does_7 rfl 8 rfl ?_
  refine G_cV C dX7_does_8 (c_X7_yOf l E mo ma0 ma1 ma2 ma4 ma5 ma7 ma9 ma10 ma11 ma12 ma15 ns mlen mm pl wm gw hh Nw i v (by first | assumption | omega) (by first | assumption | omega) (by first | assumption | omega)) wm_X7_72 wi_X7_yOf wsel_X7_yOf wn_X7 wc_X7_yOf rfl rfl ⟨by decide, by decide, rfl⟩ rfl (Nat.le_of_ble_eq_true rfl) 7 rfl rfl 0 rfl [0, 1] [2] (wr := [(ma11, .inl (E.2.1, 10, .inl (aO En)))]) rfl rfl rfl rfl rfl [1, 2, 0] rfl [(mo, .inr (7, [.ref ma0, .ref ma1, .ref ma2, .int (nI ns), .ref ma4, .ref ma5, .int (nI mlen), .ref ma7, .int (bI gw), .ref ma9, .ref ma10, .ref ma11, .ref ma12, .int (nI mm), .int (nI pl), .ref ma15, .int (nI wm), .long hh])), (ma0, .inl (E.2.1, 15, .inl (aN Nw))), (ma11, .inl (E.2.1, 10, .inl (aO En)))] rfl rfl [.int (nI (v % 10))] rfl 11 rfl ?_
  refine G_istore_n C dX7_does_11 (by decide) [(3, .int (nI (v % 10))), (2, .int (nI (v / 10 % 10))), (0, .ref mo), (1, .int (nI i))] rfl 12 rfl ?_
  refine G_aload_n C dX7_does_12 rfl 13 rfl ?_
  refine G_iload_n C dX7_does_13 rfl 14 rfl ?_
  refine G_cV C dX7_does_14 (c_X7_sortOf l E mo ma0 ma1 ma2 ma4 ma5 ma7 ma9 ma10 ma11 ma12 ma15 ns mlen mm pl wm gw hh Nw i v (by first | assumption | omega) (by first | assumption | omega) (by first | assumption | omega)) wm_X7_75 wi_X7_sortOf wsel_X7_sortOf wn_X7 wc_X7_sortOf rfl rfl ⟨by decide, by decide, rfl⟩ rfl (Nat.le_of_ble_eq_true rfl) 7 rfl rfl 0 rfl [0, 1] [2] (wr := [(ma11, .inl (E.2.1, 10, .inl (aO En)))]) rfl rfl rfl rfl rfl [1, 2, 0] rfl [(mo, .inr (7, [.ref ma0, .ref ma1, .ref ma2, .int (nI ns), .ref ma4, .ref ma5, .int (nI mlen), .ref ma7, .int (bI gw), .ref ma9, .ref ma10, .ref ma11, .ref ma12, .int (nI mm), .int (nI pl), .ref ma15, .int (nI wm), .long hh])), (ma0, .inl (E.2.1, 15, .inl (aN Nw))), (ma11, .inl (E.2.1, 10, .inl (aO En)))] rfl rfl [.int (nI (v / 100))] rfl 17 rfl ?_
  rcases (show v / 100 = 0 ∨ v / 100 = 1 ∨ v / 100 = 2 ∨ v / 100 = 3 by omega) with hs_1 | hs_1 | hs_1 | hs_1
  · refine G_top (v' := .int (nI 0)) (by rw [hs_1]) ?_
    refine G_tabIn C dX7_does_17 (27) (by decide) (by decide) rfl 44 rfl ?_
    refine G_aload_n C dX7_does_44 rfl 45 rfl ?_
    refine G_getf C dX7_does_45 wF_X7 wf_X7_34 (f := 11) (by decide) (ci := 7) rfl 0 rfl rfl 48 rfl ?_
    refine G_iload_n C dX7_does_48 rfl 49 rfl ?_
    refine G_iload_n C dX7_does_49 rfl 50 rfl ?_
    refine G_iastO C dX7_does_50 2 rfl rfl (x := some (v % 10)) (by omega) [(mo, .inr (7, [.ref ma0, .ref ma1, .ref ma2, .int (nI ns), .ref ma4, .ref ma5, .int (nI mlen), .ref ma7, .int (bI gw), .ref ma9, .ref ma10, .ref ma11, .ref ma12, .int (nI mm), .int (nI pl), .ref ma15, .int (nI wm), .long hh])), (ma0, .inl (E.2.1, 15, .inl (aN Nw))), (ma11, .inl (E.2.1, 10, .inl (aO (va_up En (v / 10 % 10) (some (v % 10))))))] rfl 51 rfl ?_
    refine G_goto C dX7_does_51 172 rfl ?_
    exact G_vret C hr dX7_does_172 () trivial rfl (by simp [rst, hs_1])
  · refine G_top (v' := .int (nI 1)) (by rw [hs_1]) ?_
    refine G_tabIn C dX7_does_17 (37) (by decide) (by decide) rfl 54 rfl ?_
    refine G_aload_n C dX7_does_54 rfl 55 rfl ?_
    refine G_getf C dX7_does_55 wF_X7 wf_X7_34 (f := 11) (by decide) (ci := 7) rfl 0 rfl rfl 58 rfl ?_
    refine G_iload_n C dX7_does_58 rfl 59 rfl ?_
    refine G_aload_n C dX7_does_59 rfl 60 rfl ?_
    refine G_getf C dX7_does_60 wF_X7 wf_X7_34 (f := 11) (by decide) (ci := 7) rfl 0 rfl rfl 63 rfl ?_
    refine G_iload_n C dX7_does_63 rfl 64 rfl ?_
    refine G_ialdO C dX7_does_64 2 rfl rfl (by omega) 65 rfl ?_
    refine G_iastO C dX7_does_65 2 rfl rfl (x := En (v % 10)) (by omega) [(mo, .inr (7, [.ref ma0, .ref ma1, .ref ma2, .int (nI ns), .ref ma4, .ref ma5, .int (nI mlen), .ref ma7, .int (bI gw), .ref ma9, .ref ma10, .ref ma11, .ref ma12, .int (nI mm), .int (nI pl), .ref ma15, .int (nI wm), .long hh])), (ma0, .inl (E.2.1, 15, .inl (aN Nw))), (ma11, .inl (E.2.1, 10, .inl (aO (va_up En (v / 10 % 10) (En (v % 10))))))] rfl 66 rfl ?_
    refine G_goto C dX7_does_66 172 rfl ?_
    exact G_vret C hr dX7_does_172 () trivial rfl (by simp [rst, hs_1])
  · refine G_top (v' := .int (nI 2)) (by rw [hs_1]) ?_
    refine G_tabIn C dX7_does_17 (52) (by decide) (by decide) rfl 69 rfl ?_
    refine G_aload_n C dX7_does_69 rfl 70 rfl ?_
    refine G_dup C dX7_does_70 rfl 71 rfl ?_
    refine G_getf C dX7_does_71 wF_X7 wf_X7_127 (f := 13) (by decide) (ci := 7) rfl 0 rfl rfl 74 rfl ?_
    refine G_aload_n C dX7_does_74 rfl 75 rfl ?_
    refine G_getf C dX7_does_75 wF_X7 wf_X7_34 (f := 11) (by decide) (ci := 7) rfl 0 rfl rfl 78 rfl ?_
    refine G_iload_n C dX7_does_78 rfl 79 rfl ?_
    refine G_ialdO C dX7_does_79 2 rfl rfl (by omega) 80 rfl ?_
    refine G_iconst C dX7_does_80 (v := oI none) rfl 81 rfl ?_
    refine G_icmp_ne C dX7_does_81 88 rfl 84 rfl (oI_none (hE _ (by omega)).b) (fun h_1 => ?_) (fun h_1 => ?_)
    · obtain ⟨g, eg⟩ := Option.ne_none_iff_exists'.mp h_1
      have hg : g < 10 := hE _ (by omega) g eg
      refine G_iconst C dX7_does_88 (v := nI 0) rfl 89 rfl ?_
      refine G_iadd C dX7_does_89 (v := nI (mm + 0)) (nI_add _ _) 90 rfl ?_
      refine G_putf C dX7_does_90 wF_X7 wf_X7_127 (f := 13) (by decide) (ci := 7) rfl tyX7_ok nmX7 rfl 0 rfl rfl rfl (Nat.le_of_ble_eq_true rfl) [(mo, .inr (7, [.ref ma0, .ref ma1, .ref ma2, .int (nI ns), .ref ma4, .ref ma5, .int (nI mlen), .ref ma7, .int (bI gw), .ref ma9, .ref ma10, .ref ma11, .ref ma12, .int (nI (mm + 0)), .int (nI pl), .ref ma15, .int (nI wm), .long hh])), (ma0, .inl (E.2.1, 15, .inl (aN Nw))), (ma11, .inl (E.2.1, 10, .inl (aO En)))] rfl 93 rfl ?_
      refine G_aload_n C dX7_does_93 rfl 94 rfl ?_
      refine G_getf C dX7_does_94 wF_X7 wf_X7_34 (f := 11) (by decide) (ci := 7) rfl 0 rfl rfl 97 rfl ?_
      refine G_iload_n C dX7_does_97 rfl 98 rfl ?_
      refine G_aload_n C dX7_does_98 rfl 99 rfl ?_
      refine G_getf C dX7_does_99 wF_X7 wf_X7_34 (f := 11) (by decide) (ci := 7) rfl 0 rfl rfl 102 rfl ?_
      refine G_iload_n C dX7_does_102 rfl 103 rfl ?_
      refine G_ialdO C dX7_does_103 2 rfl rfl (by omega) 104 rfl ?_
      refine G_iconst C dX7_does_104 (v := oI none) rfl 105 rfl ?_
      refine G_icmp_ne_t C dX7_does_105 117 rfl (fun h9 => h_1 ((oI_none (hE _ (by omega)).b).mp h9)) ?_
      refine G_aload_n C dX7_does_117 rfl 118 rfl ?_
      refine G_getf C dX7_does_118 wF_X7 wf_X7_34 (f := 11) (by decide) (ci := 7) rfl 0 rfl rfl 121 rfl ?_
      refine G_aload_n C dX7_does_121 rfl 122 rfl ?_
      refine G_getf C dX7_does_122 wF_X7 wf_X7_34 (f := 11) (by decide) (ci := 7) rfl 0 rfl rfl 125 rfl ?_
      refine G_iload_n C dX7_does_125 rfl 126 rfl ?_
      refine G_ialdO C dX7_does_126 2 rfl rfl (by omega) 127 rfl ?_
      refine G_top (v' := .int (nI g)) (by rw [eg]; rfl) ?_
      refine G_ialdO C dX7_does_127 2 rfl rfl hg 128 rfl ?_
      refine G_iastO C dX7_does_128 2 rfl rfl (x := En g) (by omega) [(mo, .inr (7, [.ref ma0, .ref ma1, .ref ma2, .int (nI ns), .ref ma4, .ref ma5, .int (nI mlen), .ref ma7, .int (bI gw), .ref ma9, .ref ma10, .ref ma11, .ref ma12, .int (nI (mm + 0)), .int (nI pl), .ref ma15, .int (nI wm), .long hh])), (ma0, .inl (E.2.1, 15, .inl (aN Nw))), (ma11, .inl (E.2.1, 10, .inl (aO (va_up En (v / 10 % 10) (En g)))))] rfl 129 rfl ?_
      refine G_goto C dX7_does_129 172 rfl ?_
      exact G_vret C hr dX7_does_172 () trivial rfl (by simp [rst, hs_1, eg, rld])
    · refine G_iconst C dX7_does_84 (v := nI 1) rfl 85 rfl ?_
      refine G_goto C dX7_does_85 89 rfl ?_
      refine G_iadd C dX7_does_89 (v := nI (mm + 1)) (nI_add _ _) 90 rfl ?_
      refine G_putf C dX7_does_90 wF_X7 wf_X7_127 (f := 13) (by decide) (ci := 7) rfl tyX7_ok nmX7 rfl 0 rfl rfl rfl (Nat.le_of_ble_eq_true rfl) [(mo, .inr (7, [.ref ma0, .ref ma1, .ref ma2, .int (nI ns), .ref ma4, .ref ma5, .int (nI mlen), .ref ma7, .int (bI gw), .ref ma9, .ref ma10, .ref ma11, .ref ma12, .int (nI (mm + 1)), .int (nI pl), .ref ma15, .int (nI wm), .long hh])), (ma0, .inl (E.2.1, 15, .inl (aN Nw))), (ma11, .inl (E.2.1, 10, .inl (aO En)))] rfl 93 rfl ?_
      refine G_aload_n C dX7_does_93 rfl 94 rfl ?_
      refine G_getf C dX7_does_94 wF_X7 wf_X7_34 (f := 11) (by decide) (ci := 7) rfl 0 rfl rfl 97 rfl ?_
      refine G_iload_n C dX7_does_97 rfl 98 rfl ?_
      refine G_aload_n C dX7_does_98 rfl 99 rfl ?_
      refine G_getf C dX7_does_99 wF_X7 wf_X7_34 (f := 11) (by decide) (ci := 7) rfl 0 rfl rfl 102 rfl ?_
      refine G_iload_n C dX7_does_102 rfl 103 rfl ?_
      refine G_ialdO C dX7_does_103 2 rfl rfl (by omega) 104 rfl ?_
      refine G_iconst C dX7_does_104 (v := oI none) rfl 105 rfl ?_
      refine G_icmp_ne_f C dX7_does_105 117 rfl 108 rfl ((oI_none (hE _ (by omega)).b).mpr h_1) ?_
      refine G_aload_n C dX7_does_108 rfl 109 rfl ?_
      refine G_getf C dX7_does_109 wF_X7 wf_X7_34 (f := 11) (by decide) (ci := 7) rfl 0 rfl rfl 112 rfl ?_
      refine G_iload_n C dX7_does_112 rfl 113 rfl ?_
      refine G_ialdO C dX7_does_113 2 rfl rfl (by omega) 114 rfl ?_
      refine G_goto C dX7_does_114 128 rfl ?_
      refine G_iastO C dX7_does_128 2 rfl rfl (x := En (v / 10 % 10)) (by omega) [(mo, .inr (7, [.ref ma0, .ref ma1, .ref ma2, .int (nI ns), .ref ma4, .ref ma5, .int (nI mlen), .ref ma7, .int (bI gw), .ref ma9, .ref ma10, .ref ma11, .ref ma12, .int (nI (mm + 1)), .int (nI pl), .ref ma15, .int (nI wm), .long hh])), (ma0, .inl (E.2.1, 15, .inl (aN Nw))), (ma11, .inl (E.2.1, 10, .inl (aO (va_up En (v / 10 % 10) (En (v / 10 % 10))))))] rfl 129 rfl ?_
      refine G_goto C dX7_does_129 172 rfl ?_
      exact G_vret C hr dX7_does_172 () trivial rfl (by simp [rst, hs_1, h_1, rld, up_same])
  · refine G_top (v' := .int (nI 3)) (by rw [hs_1]) ?_
    refine G_tabOut C dX7_does_17 (by decide) 132 rfl ?_
    refine G_aload_n C dX7_does_132 rfl 133 rfl ?_
    refine G_getf C dX7_does_133 wF_X7 wf_X7_34 (f := 11) (by decide) (ci := 7) rfl 0 rfl rfl 136 rfl ?_
    refine G_iload_n C dX7_does_136 rfl 137 rfl ?_
    refine G_ialdO C dX7_does_137 2 rfl rfl (by omega) 138 rfl ?_
    refine G_iconst C dX7_does_138 (v := oI none) rfl 139 rfl ?_
    refine G_icmp_ne C dX7_does_139 155 rfl 142 rfl (oI_none (hE _ (by omega)).b) (fun h_3 => ?_) (fun h_3 => ?_)
    · obtain ⟨g, eg⟩ := Option.ne_none_iff_exists'.mp h_3
      have hg : g < 10 := hE _ (by omega) g eg
      refine G_aload_n C dX7_does_155 rfl 156 rfl ?_
      refine G_getf C dX7_does_156 wF_X7 wf_X7_34 (f := 11) (by decide) (ci := 7) rfl 0 rfl rfl 159 rfl ?_
      refine G_aload_n C dX7_does_159 rfl 160 rfl ?_
      refine G_getf C dX7_does_160 wF_X7 wf_X7_34 (f := 11) (by decide) (ci := 7) rfl 0 rfl rfl 163 rfl ?_
      refine G_iload_n C dX7_does_163 rfl 164 rfl ?_
      refine G_ialdO C dX7_does_164 2 rfl rfl (by omega) 165 rfl ?_
      refine G_top (v' := .int (nI g)) (by rw [eg]; rfl) ?_
      refine G_aload_n C dX7_does_165 rfl 166 rfl ?_
      refine G_getf C dX7_does_166 wF_X7 wf_X7_34 (f := 11) (by decide) (ci := 7) rfl 0 rfl rfl 169 rfl ?_
      refine G_iload_n C dX7_does_169 rfl 170 rfl ?_
      refine G_ialdO C dX7_does_170 2 rfl rfl (by omega) 171 rfl ?_
      refine G_iastO C dX7_does_171 2 rfl rfl (x := En (v % 10)) hg [(mo, .inr (7, [.ref ma0, .ref ma1, .ref ma2, .int (nI ns), .ref ma4, .ref ma5, .int (nI mlen), .ref ma7, .int (bI gw), .ref ma9, .ref ma10, .ref ma11, .ref ma12, .int (nI mm), .int (nI pl), .ref ma15, .int (nI wm), .long hh])), (ma0, .inl (E.2.1, 15, .inl (aN Nw))), (ma11, .inl (E.2.1, 10, .inl (aO (va_up En g (En (v % 10))))))] rfl 172 rfl ?_
      exact G_vret C hr dX7_does_172 () trivial rfl (by simp [rst, hs_1, eg, rsto])
    · refine G_aload_n C dX7_does_142 rfl 143 rfl ?_
      refine G_dup C dX7_does_143 rfl 144 rfl ?_
      refine G_getf C dX7_does_144 wF_X7 wf_X7_127 (f := 13) (by decide) (ci := 7) rfl 0 rfl rfl 147 rfl ?_
      refine G_iconst C dX7_does_147 (v := nI 1) rfl 148 rfl ?_
      refine G_iadd C dX7_does_148 (v := nI (mm + 1)) (nI_add _ _) 149 rfl ?_
      refine G_putf C dX7_does_149 wF_X7 wf_X7_127 (f := 13) (by decide) (ci := 7) rfl tyX7_ok nmX7 rfl 0 rfl rfl rfl (Nat.le_of_ble_eq_true rfl) [(mo, .inr (7, [.ref ma0, .ref ma1, .ref ma2, .int (nI ns), .ref ma4, .ref ma5, .int (nI mlen), .ref ma7, .int (bI gw), .ref ma9, .ref ma10, .ref ma11, .ref ma12, .int (nI (mm + 1)), .int (nI pl), .ref ma15, .int (nI wm), .long hh])), (ma0, .inl (E.2.1, 15, .inl (aN Nw))), (ma11, .inl (E.2.1, 10, .inl (aO En)))] rfl 152 rfl ?_
      refine G_goto C dX7_does_152 172 rfl ?_
      exact G_vret C hr dX7_does_172 () trivial rfl (by simp [rst, hs_1, h_3, rsto])

set_option maxHeartbeats 4000000 in
set_option maxRecDepth 100000 in
theorem c_X7_runs (l : Launch) (E : gE) (mo ma0 ma1 ma2 ma4 ma5 ma7 ma9 ma10 ma11 ma12 ma15 ns mlen mm pl wm : Nat) (gw : Bool) (hh : Int64) (Nw : Nat → Nat) (En : Nat → Option Nat) (Ev : Nat → Nat) (ln : Nat → Nat) (n rn : Nat) (hok : mok n ln Nw) (hrn : rn ≤ 9) : FD l E yX7_runs cX7_runs 4 none { frames := 2, cells := 0, slots := 0, locals := 44 } [.ref mo, .int (nI rn)] [(mo, .inr (7, [.ref ma0, .ref ma1, .ref ma2, .int (nI ns), .ref ma4, .ref ma5, .int (nI mlen), .ref ma7, .int (bI gw), .ref ma9, .ref ma10, .ref ma11, .ref ma12, .int (nI mm), .int (nI pl), .ref ma15, .int (nI wm), .long hh])), (ma0, .inl (E.2.1, 15, .inl (aN Nw))), (ma11, .inl (E.2.1, 10, .inl (aO En))), (ma12, .inl (E.2.1, 10, .inl (aN Ev)))] none [(mo, .inr (7, [.ref ma0, .ref ma1, .ref ma2, .int (nI ns), .ref ma4, .ref ma5, .int (nI mlen), .ref ma7, .int (bI gw), .ref ma9, .ref ma10, .ref ma11, .ref ma12, .int (nI ((rr ln n (rn * n)).2.2)), .int (nI pl), .ref ma15, .int (nI wm), .long hh])), (ma0, .inl (E.2.1, 15, .inl (aN Nw))), (ma11, .inl (E.2.1, 10, .inl (aO ((rr ln n (rn * n)).1)))), (ma12, .inl (E.2.1, 10, .inl (aN ((rr ln n (rn * n)).2.1))))] := by
  refine Fn_ofL (own := RX7) (by decide) rfl rfl [(0, .ref mo), (1, .int (nI rn))] rfl ?_
  intro p e s m below meth c A C hr hnm
  have h14 : n ≤ 14 := hok.n
  have hrb : rn * n ≤ 9 * 14 := Nat.mul_le_mul hrn h14
  refine G_aload_n C dX7_runs_0 rfl 1 rfl ?_
  refine G_iconst C dX7_runs_1 (v := nI 0) rfl 2 rfl ?_
  refine G_putf C dX7_runs_2 wF_X7 wf_X7_127 (f := 13) (by decide) (ci := 7) rfl tyX7_ok nmX7 rfl 0 rfl rfl rfl (Nat.le_of_ble_eq_true rfl) [(mo, .inr (7, [.ref ma0, .ref ma1, .ref ma2, .int (nI ns), .ref ma4, .ref ma5, .int (nI mlen), .ref ma7, .int (bI gw), .ref ma9, .ref ma10, .ref ma11, .ref ma12, .int (nI 0), .int (nI pl), .ref ma15, .int (nI wm), .long hh])), (ma0, .inl (E.2.1, 15, .inl (aN Nw))), (ma11, .inl (E.2.1, 10, .inl (aO En))), (ma12, .inl (E.2.1, 10, .inl (aN Ev)))] rfl 5 rfl ?_
  refine G_iconst C dX7_runs_5 (v := nI 0) rfl 6 rfl ?_
  refine G_istore_n C dX7_runs_6 (by decide) [(2, .int (nI 0)), (0, .ref mo), (1, .int (nI rn))] rfl 7 rfl ?_
  refine G_eq (ws' := [(mo, .inr (7, [.ref ma0, .ref ma1, .ref ma2, .int (nI ns), .ref ma4, .ref ma5, .int (nI mlen), .ref ma7, .int (bI gw), .ref ma9, .ref ma10, .ref ma11, .ref ma12, .int (nI 0), .int (nI pl), .ref ma15, .int (nI wm), .long hh])), (ma0, .inl (E.2.1, 15, .inl (aN Nw))), (ma11, .inl (E.2.1, 10, .inl (aO (flG (fun _ => none) En 0)))), (ma12, .inl (E.2.1, 10, .inl (aN (flG (fun _ => 0) Ev 0))))]) (by rw [flG_0, flG_0]) rfl rfl ?_
  refine G_while (X := Nat) (Wf := fun x => [(mo, .inr (7, [.ref ma0, .ref ma1, .ref ma2, .int (nI ns), .ref ma4, .ref ma5, .int (nI mlen), .ref ma7, .int (bI gw), .ref ma9, .ref ma10, .ref ma11, .ref ma12, .int (nI 0), .int (nI pl), .ref ma15, .int (nI wm), .long hh])), (ma0, .inl (E.2.1, 15, .inl (aN Nw))), (ma11, .inl (E.2.1, 10, .inl (aO (flG (fun _ => none) En x)))), (ma12, .inl (E.2.1, 10, .inl (aN (flG (fun _ => 0) Ev x))))]) (Lf := fun x => [(2, .int (nI x)), (0, .ref mo), (1, .int (nI rn))]) (Sf := fun _ => []) (fun x => x ≤ 10) (fun x => 10 - x) (fun x hx9 ihx => ?_) 0 (by omega)
  refine G_iload_n C dX7_runs_7 rfl 8 rfl ?_
  refine G_bipush C dX7_runs_8 (v := nI 10) (by decide) 10 rfl ?_
  refine G_icmp_ge C dX7_runs_10 33 rfl 13 rfl (nI_leI (by omega) (by omega)) (fun h_1 => ?_) (fun h_1 => ?_)
  · refine G_cong 2 (aO (fun _ => none)) rfl (fun j hj => by simp only [aO]; rw [flG_in _ _ (by omega)]) [(mo, .inr (7, [.ref ma0, .ref ma1, .ref ma2, .int (nI ns), .ref ma4, .ref ma5, .int (nI mlen), .ref ma7, .int (bI gw), .ref ma9, .ref ma10, .ref ma11, .ref ma12, .int (nI 0), .int (nI pl), .ref ma15, .int (nI wm), .long hh])), (ma0, .inl (E.2.1, 15, .inl (aN Nw))), (ma11, .inl (E.2.1, 10, .inl (aO (fun _ => none)))), (ma12, .inl (E.2.1, 10, .inl (aN (flG (fun _ => 0) Ev x))))] rfl ?_
    refine G_cong 3 (aN (fun _ => 0)) rfl (fun j hj => by simp only [aN]; rw [flG_in _ _ (by omega)]) [(mo, .inr (7, [.ref ma0, .ref ma1, .ref ma2, .int (nI ns), .ref ma4, .ref ma5, .int (nI mlen), .ref ma7, .int (bI gw), .ref ma9, .ref ma10, .ref ma11, .ref ma12, .int (nI 0), .int (nI pl), .ref ma15, .int (nI wm), .long hh])), (ma0, .inl (E.2.1, 15, .inl (aN Nw))), (ma11, .inl (E.2.1, 10, .inl (aO (fun _ => none)))), (ma12, .inl (E.2.1, 10, .inl (aN (fun _ => 0))))] rfl ?_
    refine G_iconst C dX7_runs_33 (v := nI 0) rfl 34 rfl ?_
    refine G_istore_n C dX7_runs_34 (by decide) [(2, .int (nI 0)), (0, .ref mo), (1, .int (nI rn))] rfl 35 rfl ?_
    refine G_eq (ws' := [(mo, .inr (7, [.ref ma0, .ref ma1, .ref ma2, .int (nI ns), .ref ma4, .ref ma5, .int (nI mlen), .ref ma7, .int (bI gw), .ref ma9, .ref ma10, .ref ma11, .ref ma12, .int (nI ((rr ln n 0).2.2)), .int (nI pl), .ref ma15, .int (nI wm), .long hh])), (ma0, .inl (E.2.1, 15, .inl (aN Nw))), (ma11, .inl (E.2.1, 10, .inl (aO ((rr ln n 0).1)))), (ma12, .inl (E.2.1, 10, .inl (aN ((rr ln n 0).2.1))))]) rfl rfl rfl ?_
    refine G_while (X := Nat) (Wf := fun k => [(mo, .inr (7, [.ref ma0, .ref ma1, .ref ma2, .int (nI ns), .ref ma4, .ref ma5, .int (nI mlen), .ref ma7, .int (bI gw), .ref ma9, .ref ma10, .ref ma11, .ref ma12, .int (nI ((rr ln n k).2.2)), .int (nI pl), .ref ma15, .int (nI wm), .long hh])), (ma0, .inl (E.2.1, 15, .inl (aN Nw))), (ma11, .inl (E.2.1, 10, .inl (aO ((rr ln n k).1)))), (ma12, .inl (E.2.1, 10, .inl (aN ((rr ln n k).2.1))))]) (Lf := fun k => [(2, .int (nI k)), (0, .ref mo), (1, .int (nI rn))]) (Sf := fun _ => []) (fun k => k ≤ rn * n) (fun k => rn * n - k) (fun k hk9 ihk => ?_) 0 (by omega)
    refine G_iload_n C dX7_runs_35 rfl 36 rfl ?_
    refine G_iload_n C dX7_runs_36 rfl 37 rfl ?_
    refine G_aload_n C dX7_runs_37 rfl 38 rfl ?_
    refine G_getf C dX7_runs_38 wF_X7 wf_X7_7 (f := 0) (by decide) (ci := 7) rfl 0 rfl rfl 41 rfl ?_
    refine G_iconst C dX7_runs_41 (v := nI 0) rfl 42 rfl ?_
    refine G_ialdN C dX7_runs_42 1 rfl rfl (by omega) 43 rfl ?_
    refine G_top (v' := .int (nI n)) (by rw [hok.z]) ?_
    refine G_imul C dX7_runs_43 (v := nI (rn * n)) (pk_mul _ _) 44 rfl ?_
    refine G_icmp_ge C dX7_runs_44 110 rfl 47 rfl (nI_leI (by omega) (by omega)) (fun h_2 => ?_) (fun h_2 => ?_)
    · exact G_vret C hr dX7_runs_110 () trivial rfl (by rw [show k = rn * n by omega])
    · have hn0 : 0 < n := by rcases Nat.eq_zero_or_pos n with h9 | h9; rw [h9, Nat.mul_zero] at h_2; omega; exact h9
      have hkn : k % n < n := Nat.mod_lt _ hn0
      refine G_aload_n C dX7_runs_47 rfl 48 rfl ?_
      refine G_iload_n C dX7_runs_48 rfl 49 rfl ?_
      refine G_aload_n C dX7_runs_49 rfl 50 rfl ?_
      refine G_getf C dX7_runs_50 wF_X7 wf_X7_7 (f := 0) (by decide) (ci := 7) rfl 0 rfl rfl 53 rfl ?_
      refine G_iconst C dX7_runs_53 (v := nI 0) rfl 54 rfl ?_
      refine G_ialdN C dX7_runs_54 1 rfl rfl (by omega) 55 rfl ?_
      refine G_top (v' := .int (nI n)) (by rw [hok.z]) ?_
      refine G_irem C dX7_runs_55 (fun h9 => absurd ((n_eq0 (by omega)).mp h9) (by omega)) (v := nI (k % n)) (pk_rem (by omega) hn0 (by omega)) 56 rfl ?_
      refine G_cV C dX7_runs_56 (c_X7_does l E mo ma0 ma1 ma2 ma4 ma5 ma7 ma9 ma10 ma11 ma12 ma15 ns mlen ((rr ln n k).2.2) pl wm gw hh Nw ((rr ln n k).1) ((rr ln n k).2.1) (k % n) (ln (k % n)) (by omega) (hok.c hkn) (hok.v hkn) (tok_rr k)) wm_X7_130 wi_X7_does wsel_X7_does wn_X7 wc_X7_does rfl rfl ⟨by decide, by decide, rfl⟩ rfl (Nat.le_of_ble_eq_true rfl) 7 rfl rfl 0 rfl [0, 1, 2] [3] (wr := [(ma12, .inl (E.2.1, 10, .inl (aN ((rr ln n k).2.1))))]) rfl rfl rfl rfl rfl [1, 2, 3, 0] rfl [(mo, .inr (7, [.ref ma0, .ref ma1, .ref ma2, .int (nI ns), .ref ma4, .ref ma5, .int (nI mlen), .ref ma7, .int (bI gw), .ref ma9, .ref ma10, .ref ma11, .ref ma12, .int (nI ((rst (ln (k % n)) (((rr ln n k).1), ((rr ln n k).2.1), ((rr ln n k).2.2))).2.2)), .int (nI pl), .ref ma15, .int (nI wm), .long hh])), (ma0, .inl (E.2.1, 15, .inl (aN Nw))), (ma11, .inl (E.2.1, 10, .inl (aO ((rst (ln (k % n)) (((rr ln n k).1), ((rr ln n k).2.1), ((rr ln n k).2.2))).1)))), (ma12, .inl (E.2.1, 10, .inl (aN ((rr ln n k).2.1))))] rfl rfl [] rfl 59 rfl ?_
      refine G_iconst C dX7_runs_59 (v := nI 0) rfl 60 rfl ?_
      refine G_istore_n C dX7_runs_60 (by decide) [(3, .int (nI 0)), (2, .int (nI k)), (0, .ref mo), (1, .int (nI rn))] rfl 61 rfl ?_
      refine G_eq (ws' := [(mo, .inr (7, [.ref ma0, .ref ma1, .ref ma2, .int (nI ns), .ref ma4, .ref ma5, .int (nI mlen), .ref ma7, .int (bI gw), .ref ma9, .ref ma10, .ref ma11, .ref ma12, .int (nI ((rst (ln (k % n)) (rr ln n k)).2.2)), .int (nI pl), .ref ma15, .int (nI wm), .long hh])), (ma0, .inl (E.2.1, 15, .inl (aN Nw))), (ma11, .inl (E.2.1, 10, .inl (aO ((rst (ln (k % n)) (rr ln n k)).1)))), (ma12, .inl (E.2.1, 10, .inl (aN (flG (fun x => (rr ln n k).2.1 x ||| obt ((rst (ln (k % n)) (rr ln n k)).1 x)) (rr ln n k).2.1 0))))]) (by rw [flG_0]) rfl rfl ?_
      refine G_while (X := Nat) (Wf := fun i => [(mo, .inr (7, [.ref ma0, .ref ma1, .ref ma2, .int (nI ns), .ref ma4, .ref ma5, .int (nI mlen), .ref ma7, .int (bI gw), .ref ma9, .ref ma10, .ref ma11, .ref ma12, .int (nI ((rst (ln (k % n)) (rr ln n k)).2.2)), .int (nI pl), .ref ma15, .int (nI wm), .long hh])), (ma0, .inl (E.2.1, 15, .inl (aN Nw))), (ma11, .inl (E.2.1, 10, .inl (aO ((rst (ln (k % n)) (rr ln n k)).1)))), (ma12, .inl (E.2.1, 10, .inl (aN (flG (fun x => (rr ln n k).2.1 x ||| obt ((rst (ln (k % n)) (rr ln n k)).1 x)) (rr ln n k).2.1 i))))]) (Lf := fun i => [(3, .int (nI i)), (2, .int (nI k)), (0, .ref mo), (1, .int (nI rn))]) (Sf := fun _ => []) (fun i => i ≤ 10) (fun i => 10 - i) (fun i hi ih => ?_) 0 (by omega)
      refine G_iload_n C dX7_runs_61 rfl 62 rfl ?_
      refine G_bipush C dX7_runs_62 (v := nI 10) (by decide) 64 rfl ?_
      refine G_icmp_ge C dX7_runs_64 104 rfl 67 rfl (nI_leI (by omega) (by omega)) (fun h_3 => ?_) (fun h_3 => ?_)
      · refine G_eq (ws' := [(mo, .inr (7, [.ref ma0, .ref ma1, .ref ma2, .int (nI ns), .ref ma4, .ref ma5, .int (nI mlen), .ref ma7, .int (bI gw), .ref ma9, .ref ma10, .ref ma11, .ref ma12, .int (nI ((rr ln n (k + 1)).2.2)), .int (nI pl), .ref ma15, .int (nI wm), .long hh])), (ma0, .inl (E.2.1, 15, .inl (aN Nw))), (ma11, .inl (E.2.1, 10, .inl (aO ((rr ln n (k + 1)).1)))), (ma12, .inl (E.2.1, 10, .inl (aN (flG (fun x => (rr ln n k).2.1 x ||| obt ((rst (ln (k % n)) (rr ln n k)).1 x)) (rr ln n k).2.1 i))))]) rfl rfl rfl ?_
        refine G_cong 3 (aN (rr ln n (k + 1)).2.1) rfl (fun j hj => by simp only [aN]; rw [flG_in _ _ (by omega)]; exact congrArg nI ((wer (rr_winv k) (ln (k % n))).2 j hj)) [(mo, .inr (7, [.ref ma0, .ref ma1, .ref ma2, .int (nI ns), .ref ma4, .ref ma5, .int (nI mlen), .ref ma7, .int (bI gw), .ref ma9, .ref ma10, .ref ma11, .ref ma12, .int (nI ((rr ln n (k + 1)).2.2)), .int (nI pl), .ref ma15, .int (nI wm), .long hh])), (ma0, .inl (E.2.1, 15, .inl (aN Nw))), (ma11, .inl (E.2.1, 10, .inl (aO ((rr ln n (k + 1)).1)))), (ma12, .inl (E.2.1, 10, .inl (aN ((rr ln n (k + 1)).2.1))))] rfl ?_
        refine G_iinc C dX7_runs_104 1 rfl (nI_1 _) (by decide) [(2, .int (nI (k + 1))), (3, .int (nI i)), (0, .ref mo), (1, .int (nI rn))] rfl 107 rfl ?_
        refine G_goto C dX7_runs_107 35 rfl ?_
        refine G_sel [0, 2, 3] [(2, .int (nI (k + 1))), (0, .ref mo), (1, .int (nI rn))] rfl ?_
        exact ihk (k + 1) (by omega) (by omega)
      · refine G_aload_n C dX7_runs_67 rfl 68 rfl ?_
        refine G_getf C dX7_runs_68 wF_X7 wf_X7_37 (f := 12) (by decide) (ci := 7) rfl 0 rfl rfl 71 rfl ?_
        refine G_iload_n C dX7_runs_71 rfl 72 rfl ?_
        refine G_dup2 C dX7_runs_72 rfl rfl 73 rfl ?_
        refine G_ialdN C dX7_runs_73 3 rfl rfl (by omega) 74 rfl ?_
        refine G_aload_n C dX7_runs_74 rfl 75 rfl ?_
        refine G_getf C dX7_runs_75 wF_X7 wf_X7_34 (f := 11) (by decide) (ci := 7) rfl 0 rfl rfl 78 rfl ?_
        refine G_iload_n C dX7_runs_78 rfl 79 rfl ?_
        refine G_ialdO C dX7_runs_79 2 rfl rfl (by omega) 80 rfl ?_
        refine G_iconst C dX7_runs_80 (v := oI none) rfl 81 rfl ?_
        refine G_icmp_ne C dX7_runs_81 88 rfl 84 rfl (oI_none (tok_rst (tok_rr k) _ i (by omega)).b) (fun h_4 => ?_) (fun h_4 => ?_)
        · obtain ⟨g, eg⟩ := Option.ne_none_iff_exists'.mp h_4
          have hg : g < 10 := tok_rst (tok_rr k) _ i (by omega) g eg
          refine G_iconst C dX7_runs_88 (v := nI 1) rfl 89 rfl ?_
          refine G_aload_n C dX7_runs_89 rfl 90 rfl ?_
          refine G_getf C dX7_runs_90 wF_X7 wf_X7_34 (f := 11) (by decide) (ci := 7) rfl 0 rfl rfl 93 rfl ?_
          refine G_iload_n C dX7_runs_93 rfl 94 rfl ?_
          refine G_ialdO C dX7_runs_94 2 rfl rfl (by omega) 95 rfl ?_
          refine G_top (v' := .int (nI g)) (by rw [eg]; rfl) ?_
          refine G_ishl C dX7_runs_95 (v := nI (2 ^ g)) (nI_bit _ (by omega)) 96 rfl ?_
          refine G_ior C dX7_runs_96 (v := nI (((flG (fun x => (rr ln n k).2.1 x ||| obt ((rst (ln (k % n)) (rr ln n k)).1 x)) (rr ln n k).2.1 i) i) ||| (2 ^ g))) (fa_or _ _) 97 rfl ?_
          refine G_iastN C dX7_runs_97 3 rfl rfl (x := ((flG (fun x => (rr ln n k).2.1 x ||| obt ((rst (ln (k % n)) (rr ln n k)).1 x)) (rr ln n k).2.1 i) i) ||| (2 ^ g)) (by omega) [(mo, .inr (7, [.ref ma0, .ref ma1, .ref ma2, .int (nI ns), .ref ma4, .ref ma5, .int (nI mlen), .ref ma7, .int (bI gw), .ref ma9, .ref ma10, .ref ma11, .ref ma12, .int (nI ((rst (ln (k % n)) (rr ln n k)).2.2)), .int (nI pl), .ref ma15, .int (nI wm), .long hh])), (ma0, .inl (E.2.1, 15, .inl (aN Nw))), (ma11, .inl (E.2.1, 10, .inl (aO ((rst (ln (k % n)) (rr ln n k)).1)))), (ma12, .inl (E.2.1, 10, .inl (aN (va_up (flG (fun x => (rr ln n k).2.1 x ||| obt ((rst (ln (k % n)) (rr ln n k)).1 x)) (rr ln n k).2.1 i) i (((flG (fun x => (rr ln n k).2.1 x ||| obt ((rst (ln (k % n)) (rr ln n k)).1 x)) (rr ln n k).2.1 i) i) ||| (2 ^ g))))))] rfl 98 rfl ?_
          refine G_iinc C dX7_runs_98 0 rfl (nI_1 _) (by decide) [(3, .int (nI (i + 1))), (2, .int (nI k)), (0, .ref mo), (1, .int (nI rn))] rfl 101 rfl ?_
          refine G_goto C dX7_runs_101 61 rfl ?_
          refine G_eq (ws' := [(mo, .inr (7, [.ref ma0, .ref ma1, .ref ma2, .int (nI ns), .ref ma4, .ref ma5, .int (nI mlen), .ref ma7, .int (bI gw), .ref ma9, .ref ma10, .ref ma11, .ref ma12, .int (nI ((rst (ln (k % n)) (rr ln n k)).2.2)), .int (nI pl), .ref ma15, .int (nI wm), .long hh])), (ma0, .inl (E.2.1, 15, .inl (aN Nw))), (ma11, .inl (E.2.1, 10, .inl (aO ((rst (ln (k % n)) (rr ln n k)).1)))), (ma12, .inl (E.2.1, 10, .inl (aN (flG (fun x => (rr ln n k).2.1 x ||| obt ((rst (ln (k % n)) (rr ln n k)).1 x)) (rr ln n k).2.1 (i + 1)))))]) (by rw [show flG (fun x => (rr ln n k).2.1 x ||| obt ((rst (ln (k % n)) (rr ln n k)).1 x)) (rr ln n k).2.1 i i = (rr ln n k).2.1 i by simp [flG], flG_s' (f := (fun x => (rr ln n k).2.1 x ||| obt ((rst (ln (k % n)) (rr ln n k)).1 x))) (show (rr ln n k).2.1 i ||| 2 ^ g = (rr ln n k).2.1 i ||| obt ((rst (ln (k % n)) (rr ln n k)).1 i) by rw [eg]; rfl)]) rfl rfl ?_
          exact ih (i + 1) (by omega) (by omega)
        · refine G_iconst C dX7_runs_84 (v := nI 0) rfl 85 rfl ?_
          refine G_goto C dX7_runs_85 96 rfl ?_
          refine G_ior C dX7_runs_96 (v := nI (((flG (fun x => (rr ln n k).2.1 x ||| obt ((rst (ln (k % n)) (rr ln n k)).1 x)) (rr ln n k).2.1 i) i) ||| 0)) (fa_or _ _) 97 rfl ?_
          refine G_iastN C dX7_runs_97 3 rfl rfl (x := ((flG (fun x => (rr ln n k).2.1 x ||| obt ((rst (ln (k % n)) (rr ln n k)).1 x)) (rr ln n k).2.1 i) i) ||| 0) (by omega) [(mo, .inr (7, [.ref ma0, .ref ma1, .ref ma2, .int (nI ns), .ref ma4, .ref ma5, .int (nI mlen), .ref ma7, .int (bI gw), .ref ma9, .ref ma10, .ref ma11, .ref ma12, .int (nI ((rst (ln (k % n)) (rr ln n k)).2.2)), .int (nI pl), .ref ma15, .int (nI wm), .long hh])), (ma0, .inl (E.2.1, 15, .inl (aN Nw))), (ma11, .inl (E.2.1, 10, .inl (aO ((rst (ln (k % n)) (rr ln n k)).1)))), (ma12, .inl (E.2.1, 10, .inl (aN (va_up (flG (fun x => (rr ln n k).2.1 x ||| obt ((rst (ln (k % n)) (rr ln n k)).1 x)) (rr ln n k).2.1 i) i (((flG (fun x => (rr ln n k).2.1 x ||| obt ((rst (ln (k % n)) (rr ln n k)).1 x)) (rr ln n k).2.1 i) i) ||| 0)))))] rfl 98 rfl ?_
          refine G_iinc C dX7_runs_98 0 rfl (nI_1 _) (by decide) [(3, .int (nI (i + 1))), (2, .int (nI k)), (0, .ref mo), (1, .int (nI rn))] rfl 101 rfl ?_
          refine G_goto C dX7_runs_101 61 rfl ?_
          refine G_eq (ws' := [(mo, .inr (7, [.ref ma0, .ref ma1, .ref ma2, .int (nI ns), .ref ma4, .ref ma5, .int (nI mlen), .ref ma7, .int (bI gw), .ref ma9, .ref ma10, .ref ma11, .ref ma12, .int (nI ((rst (ln (k % n)) (rr ln n k)).2.2)), .int (nI pl), .ref ma15, .int (nI wm), .long hh])), (ma0, .inl (E.2.1, 15, .inl (aN Nw))), (ma11, .inl (E.2.1, 10, .inl (aO ((rst (ln (k % n)) (rr ln n k)).1)))), (ma12, .inl (E.2.1, 10, .inl (aN (flG (fun x => (rr ln n k).2.1 x ||| obt ((rst (ln (k % n)) (rr ln n k)).1 x)) (rr ln n k).2.1 (i + 1)))))]) (by rw [show flG (fun x => (rr ln n k).2.1 x ||| obt ((rst (ln (k % n)) (rr ln n k)).1 x)) (rr ln n k).2.1 i i = (rr ln n k).2.1 i by simp [flG], flG_s' (f := (fun x => (rr ln n k).2.1 x ||| obt ((rst (ln (k % n)) (rr ln n k)).1 x))) (show (rr ln n k).2.1 i ||| 0 = (rr ln n k).2.1 i ||| obt ((rst (ln (k % n)) (rr ln n k)).1 i) by rw [h_4]; rfl)]) rfl rfl ?_
          exact ih (i + 1) (by omega) (by omega)
  · refine G_aload_n C dX7_runs_13 rfl 14 rfl ?_
    refine G_getf C dX7_runs_14 wF_X7 wf_X7_34 (f := 11) (by decide) (ci := 7) rfl 0 rfl rfl 17 rfl ?_
    refine G_iload_n C dX7_runs_17 rfl 18 rfl ?_
    refine G_iconst C dX7_runs_18 (v := oI none) rfl 19 rfl ?_
    refine G_iastO C dX7_runs_19 2 rfl rfl (x := none) (by omega) [(mo, .inr (7, [.ref ma0, .ref ma1, .ref ma2, .int (nI ns), .ref ma4, .ref ma5, .int (nI mlen), .ref ma7, .int (bI gw), .ref ma9, .ref ma10, .ref ma11, .ref ma12, .int (nI 0), .int (nI pl), .ref ma15, .int (nI wm), .long hh])), (ma0, .inl (E.2.1, 15, .inl (aN Nw))), (ma11, .inl (E.2.1, 10, .inl (aO (va_up (flG (fun _ => none) En x) x none)))), (ma12, .inl (E.2.1, 10, .inl (aN (flG (fun _ => 0) Ev x))))] rfl 20 rfl ?_
    refine G_aload_n C dX7_runs_20 rfl 21 rfl ?_
    refine G_getf C dX7_runs_21 wF_X7 wf_X7_37 (f := 12) (by decide) (ci := 7) rfl 0 rfl rfl 24 rfl ?_
    refine G_iload_n C dX7_runs_24 rfl 25 rfl ?_
    refine G_iconst C dX7_runs_25 (v := nI 0) rfl 26 rfl ?_
    refine G_iastN C dX7_runs_26 3 rfl rfl (x := 0) (by omega) [(mo, .inr (7, [.ref ma0, .ref ma1, .ref ma2, .int (nI ns), .ref ma4, .ref ma5, .int (nI mlen), .ref ma7, .int (bI gw), .ref ma9, .ref ma10, .ref ma11, .ref ma12, .int (nI 0), .int (nI pl), .ref ma15, .int (nI wm), .long hh])), (ma0, .inl (E.2.1, 15, .inl (aN Nw))), (ma11, .inl (E.2.1, 10, .inl (aO (va_up (flG (fun _ => none) En x) x none)))), (ma12, .inl (E.2.1, 10, .inl (aN (va_up (flG (fun _ => 0) Ev x) x 0))))] rfl 27 rfl ?_
    refine G_iinc C dX7_runs_27 0 rfl (nI_1 _) (by decide) [(2, .int (nI (x + 1))), (0, .ref mo), (1, .int (nI rn))] rfl 30 rfl ?_
    refine G_goto C dX7_runs_30 7 rfl ?_
    refine G_eq (ws' := [(mo, .inr (7, [.ref ma0, .ref ma1, .ref ma2, .int (nI ns), .ref ma4, .ref ma5, .int (nI mlen), .ref ma7, .int (bI gw), .ref ma9, .ref ma10, .ref ma11, .ref ma12, .int (nI 0), .int (nI pl), .ref ma15, .int (nI wm), .long hh])), (ma0, .inl (E.2.1, 15, .inl (aN Nw))), (ma11, .inl (E.2.1, 10, .inl (aO (flG (fun _ => none) En (x + 1))))), (ma12, .inl (E.2.1, 10, .inl (aN (flG (fun _ => 0) Ev (x + 1)))))]) (by rw [flG_s (fun _ => none) En x, flG_s (fun _ => 0) Ev x]) rfl rfl ?_
    exact ihx (x + 1) (by omega) (by omega)

set_option maxHeartbeats 4000000 in
set_option maxRecDepth 100000 in
theorem m_points_bad (l : Launch) (E : gE) (mo ma0 ma1 ma2 ma4 ma5 ma7 ma9 ma10 ma11 ma12 ma15 ns mlen mm pl wm : Nat) (gw : Bool) (hh : Int64) (Rf : Nat → Nat) (va vb : Int32) (hbad : inb va 10 = false ∨ inb vb 10 = false) : FD l E yX7_points cX7_points 3 (some .int) { frames := 3, cells := 0, slots := 0, locals := 67 } [.ref mo, .int va, .int vb] [(mo, .inr (7, [.ref ma0, .ref ma1, .ref ma2, .int (nI ns), .ref ma4, .ref ma5, .int (nI mlen), .ref ma7, .int (bI gw), .ref ma9, .ref ma10, .ref ma11, .ref ma12, .int (nI mm), .int (nI pl), .ref ma15, .int (nI wm), .long hh])), (ma4, .inl (E.2.1, 3, .inl (aN Rf)))] (some (.int (-2 : Int32))) [(mo, .inr (7, [.ref ma0, .ref ma1, .ref ma2, .int (nI ns), .ref ma4, .ref ma5, .int (nI mlen), .ref ma7, .int (bI gw), .ref ma9, .ref ma10, .ref ma11, .ref ma12, .int (nI mm), .int (nI pl), .ref ma15, .int (nI wm), .long hh])), (ma4, .inl (E.2.1, 3, .inl (aN (va_up Rf 0 (Rf 0 + 1)))))] := by
  refine Fn_ofL (own := RX7) (by decide) rfl rfl [(0, .ref mo), (1, .int va), (2, .int vb)] rfl ?_
  intro p e s m below meth c A C hr hnm
  refine G_iload_n C dX7_points_0 rfl 1 rfl ?_
  refine G_iconst C dX7_points_1 (v := nI 0) rfl 2 rfl ?_
  refine G_bipush C dX7_points_2 (v := nI 9) (by decide) 4 rfl ?_
  refine G_cS C dX7_points_4 (c_X7_within l E va (nI 0) (nI 9) ) wm_X7_43 wt_X7_within wn_X7 wc_X7_within rfl rfl ⟨by decide, by decide, rfl⟩ rfl (Nat.le_of_ble_eq_true rfl) [] [0, 1] (wr := [(mo, .inr (7, [.ref ma0, .ref ma1, .ref ma2, .int (nI ns), .ref ma4, .ref ma5, .int (nI mlen), .ref ma7, .int (bI gw), .ref ma9, .ref ma10, .ref ma11, .ref ma12, .int (nI mm), .int (nI pl), .ref ma15, .int (nI wm), .long hh])), (ma4, .inl (E.2.1, 3, .inl (aN Rf)))]) rfl rfl rfl rfl rfl [0, 1] rfl [(mo, .inr (7, [.ref ma0, .ref ma1, .ref ma2, .int (nI ns), .ref ma4, .ref ma5, .int (nI mlen), .ref ma7, .int (bI gw), .ref ma9, .ref ma10, .ref ma11, .ref ma12, .int (nI mm), .int (nI pl), .ref ma15, .int (nI wm), .long hh])), (ma4, .inl (E.2.1, 3, .inl (aN Rf)))] rfl rfl [.int (bI (decide ((nI 0).toInt ≤ va.toInt ∧ va.toInt ≤ (nI 9).toInt)))] rfl 7 rfl ?_
  refine G_if_eq C dX7_points_7 17 rfl 10 rfl (wi_inb va (n := 10) rfl (by omega)) (fun h_1 => ?_) (fun h_1 => ?_)
  · refine G_aload_n C dX7_points_17 rfl 18 rfl ?_
    refine G_bipush C dX7_points_18 (v := (-2 : Int32)) (by decide) 20 rfl ?_
    refine G_cV C dX7_points_20 (c_X7_counts0 l E mo ma0 ma1 ma2 ma4 ma5 ma7 ma9 ma10 ma11 ma12 ma15 ns mlen mm pl wm gw hh Rf ) wm_X7_51 wi_X7_counts wsel_X7_counts wn_X7 wc_X7_counts rfl rfl ⟨by decide, by decide, rfl⟩ rfl (Nat.le_of_ble_eq_true rfl) 7 rfl rfl 0 rfl [0, 1] [] (wr := []) rfl rfl rfl rfl rfl [0, 1] rfl [(mo, .inr (7, [.ref ma0, .ref ma1, .ref ma2, .int (nI ns), .ref ma4, .ref ma5, .int (nI mlen), .ref ma7, .int (bI gw), .ref ma9, .ref ma10, .ref ma11, .ref ma12, .int (nI mm), .int (nI pl), .ref ma15, .int (nI wm), .long hh])), (ma4, .inl (E.2.1, 3, .inl (aN (va_up Rf 0 (Rf 0 + 1)))))] rfl rfl [.int (-2 : Int32)] rfl 23 rfl ?_
    exact G_iret C hr dX7_points_23 rfl () trivial rfl rfl
  · refine G_iload_n C dX7_points_10 rfl 11 rfl ?_
    refine G_cS C dX7_points_11 (c_X7_isName l E vb ) wm_X7_55 wt_X7_isName wn_X7 wc_X7_isName rfl rfl ⟨by decide, by decide, rfl⟩ rfl (Nat.le_of_ble_eq_true rfl) [] [0, 1] (wr := [(mo, .inr (7, [.ref ma0, .ref ma1, .ref ma2, .int (nI ns), .ref ma4, .ref ma5, .int (nI mlen), .ref ma7, .int (bI gw), .ref ma9, .ref ma10, .ref ma11, .ref ma12, .int (nI mm), .int (nI pl), .ref ma15, .int (nI wm), .long hh])), (ma4, .inl (E.2.1, 3, .inl (aN Rf)))]) rfl rfl rfl rfl rfl [0, 1] rfl [(mo, .inr (7, [.ref ma0, .ref ma1, .ref ma2, .int (nI ns), .ref ma4, .ref ma5, .int (nI mlen), .ref ma7, .int (bI gw), .ref ma9, .ref ma10, .ref ma11, .ref ma12, .int (nI mm), .int (nI pl), .ref ma15, .int (nI wm), .long hh])), (ma4, .inl (E.2.1, 3, .inl (aN Rf)))] rfl rfl [.int (bI (inb vb 10))] rfl 14 rfl ?_
    refine G_if_ne C dX7_points_14 24 rfl 17 rfl (bI_0 _) (fun h_2 => ?_) (fun h_2 => ?_)
    · exact absurd hbad (by simp [h_1, h_2])
    · refine G_aload_n C dX7_points_17 rfl 18 rfl ?_
      refine G_bipush C dX7_points_18 (v := (-2 : Int32)) (by decide) 20 rfl ?_
      refine G_cV C dX7_points_20 (c_X7_counts0 l E mo ma0 ma1 ma2 ma4 ma5 ma7 ma9 ma10 ma11 ma12 ma15 ns mlen mm pl wm gw hh Rf ) wm_X7_51 wi_X7_counts wsel_X7_counts wn_X7 wc_X7_counts rfl rfl ⟨by decide, by decide, rfl⟩ rfl (Nat.le_of_ble_eq_true rfl) 7 rfl rfl 0 rfl [0, 1] [] (wr := []) rfl rfl rfl rfl rfl [0, 1] rfl [(mo, .inr (7, [.ref ma0, .ref ma1, .ref ma2, .int (nI ns), .ref ma4, .ref ma5, .int (nI mlen), .ref ma7, .int (bI gw), .ref ma9, .ref ma10, .ref ma11, .ref ma12, .int (nI mm), .int (nI pl), .ref ma15, .int (nI wm), .long hh])), (ma4, .inl (E.2.1, 3, .inl (aN (va_up Rf 0 (Rf 0 + 1)))))] rfl rfl [.int (-2 : Int32)] rfl 23 rfl ?_
      exact G_iret C hr dX7_points_23 rfl () trivial rfl rfl

set_option maxHeartbeats 4000000 in
set_option maxRecDepth 100000 in
theorem m_seen_bad (l : Launch) (E : gE) (mo ma0 ma1 ma2 ma4 ma5 ma7 ma9 ma10 ma11 ma12 ma15 ns mlen mm pl wm : Nat) (gw : Bool) (hh : Int64) (Rf : Nat → Nat) (va vb : Int32) (hbad : inb va 10 = false ∨ inb vb 10 = false) : FD l E yX7_seen cX7_seen 3 (some .int) { frames := 3, cells := 0, slots := 0, locals := 67 } [.ref mo, .int va, .int vb] [(mo, .inr (7, [.ref ma0, .ref ma1, .ref ma2, .int (nI ns), .ref ma4, .ref ma5, .int (nI mlen), .ref ma7, .int (bI gw), .ref ma9, .ref ma10, .ref ma11, .ref ma12, .int (nI mm), .int (nI pl), .ref ma15, .int (nI wm), .long hh])), (ma4, .inl (E.2.1, 3, .inl (aN Rf)))] (some (.int (-2 : Int32))) [(mo, .inr (7, [.ref ma0, .ref ma1, .ref ma2, .int (nI ns), .ref ma4, .ref ma5, .int (nI mlen), .ref ma7, .int (bI gw), .ref ma9, .ref ma10, .ref ma11, .ref ma12, .int (nI mm), .int (nI pl), .ref ma15, .int (nI wm), .long hh])), (ma4, .inl (E.2.1, 3, .inl (aN (va_up Rf 0 (Rf 0 + 1)))))] := by
  refine Fn_ofL (own := RX7) (by decide) rfl rfl [(0, .ref mo), (1, .int va), (2, .int vb)] rfl ?_
  intro p e s m below meth c A C hr hnm
  refine G_iload_n C dX7_seen_0 rfl 1 rfl ?_
  refine G_iconst C dX7_seen_1 (v := nI 0) rfl 2 rfl ?_
  refine G_bipush C dX7_seen_2 (v := nI 9) (by decide) 4 rfl ?_
  refine G_cS C dX7_seen_4 (c_X7_within l E va (nI 0) (nI 9) ) wm_X7_43 wt_X7_within wn_X7 wc_X7_within rfl rfl ⟨by decide, by decide, rfl⟩ rfl (Nat.le_of_ble_eq_true rfl) [] [0, 1] (wr := [(mo, .inr (7, [.ref ma0, .ref ma1, .ref ma2, .int (nI ns), .ref ma4, .ref ma5, .int (nI mlen), .ref ma7, .int (bI gw), .ref ma9, .ref ma10, .ref ma11, .ref ma12, .int (nI mm), .int (nI pl), .ref ma15, .int (nI wm), .long hh])), (ma4, .inl (E.2.1, 3, .inl (aN Rf)))]) rfl rfl rfl rfl rfl [0, 1] rfl [(mo, .inr (7, [.ref ma0, .ref ma1, .ref ma2, .int (nI ns), .ref ma4, .ref ma5, .int (nI mlen), .ref ma7, .int (bI gw), .ref ma9, .ref ma10, .ref ma11, .ref ma12, .int (nI mm), .int (nI pl), .ref ma15, .int (nI wm), .long hh])), (ma4, .inl (E.2.1, 3, .inl (aN Rf)))] rfl rfl [.int (bI (decide ((nI 0).toInt ≤ va.toInt ∧ va.toInt ≤ (nI 9).toInt)))] rfl 7 rfl ?_
  refine G_if_eq C dX7_seen_7 17 rfl 10 rfl (wi_inb va (n := 10) rfl (by omega)) (fun h_1 => ?_) (fun h_1 => ?_)
  · refine G_aload_n C dX7_seen_17 rfl 18 rfl ?_
    refine G_bipush C dX7_seen_18 (v := (-2 : Int32)) (by decide) 20 rfl ?_
    refine G_cV C dX7_seen_20 (c_X7_counts0 l E mo ma0 ma1 ma2 ma4 ma5 ma7 ma9 ma10 ma11 ma12 ma15 ns mlen mm pl wm gw hh Rf ) wm_X7_51 wi_X7_counts wsel_X7_counts wn_X7 wc_X7_counts rfl rfl ⟨by decide, by decide, rfl⟩ rfl (Nat.le_of_ble_eq_true rfl) 7 rfl rfl 0 rfl [0, 1] [] (wr := []) rfl rfl rfl rfl rfl [0, 1] rfl [(mo, .inr (7, [.ref ma0, .ref ma1, .ref ma2, .int (nI ns), .ref ma4, .ref ma5, .int (nI mlen), .ref ma7, .int (bI gw), .ref ma9, .ref ma10, .ref ma11, .ref ma12, .int (nI mm), .int (nI pl), .ref ma15, .int (nI wm), .long hh])), (ma4, .inl (E.2.1, 3, .inl (aN (va_up Rf 0 (Rf 0 + 1)))))] rfl rfl [.int (-2 : Int32)] rfl 23 rfl ?_
    exact G_iret C hr dX7_seen_23 rfl () trivial rfl rfl
  · refine G_iload_n C dX7_seen_10 rfl 11 rfl ?_
    refine G_cS C dX7_seen_11 (c_X7_isName l E vb ) wm_X7_55 wt_X7_isName wn_X7 wc_X7_isName rfl rfl ⟨by decide, by decide, rfl⟩ rfl (Nat.le_of_ble_eq_true rfl) [] [0, 1] (wr := [(mo, .inr (7, [.ref ma0, .ref ma1, .ref ma2, .int (nI ns), .ref ma4, .ref ma5, .int (nI mlen), .ref ma7, .int (bI gw), .ref ma9, .ref ma10, .ref ma11, .ref ma12, .int (nI mm), .int (nI pl), .ref ma15, .int (nI wm), .long hh])), (ma4, .inl (E.2.1, 3, .inl (aN Rf)))]) rfl rfl rfl rfl rfl [0, 1] rfl [(mo, .inr (7, [.ref ma0, .ref ma1, .ref ma2, .int (nI ns), .ref ma4, .ref ma5, .int (nI mlen), .ref ma7, .int (bI gw), .ref ma9, .ref ma10, .ref ma11, .ref ma12, .int (nI mm), .int (nI pl), .ref ma15, .int (nI wm), .long hh])), (ma4, .inl (E.2.1, 3, .inl (aN Rf)))] rfl rfl [.int (bI (inb vb 10))] rfl 14 rfl ?_
    refine G_if_ne C dX7_seen_14 24 rfl 17 rfl (bI_0 _) (fun h_2 => ?_) (fun h_2 => ?_)
    · exact absurd hbad (by simp [h_1, h_2])
    · refine G_aload_n C dX7_seen_17 rfl 18 rfl ?_
      refine G_bipush C dX7_seen_18 (v := (-2 : Int32)) (by decide) 20 rfl ?_
      refine G_cV C dX7_seen_20 (c_X7_counts0 l E mo ma0 ma1 ma2 ma4 ma5 ma7 ma9 ma10 ma11 ma12 ma15 ns mlen mm pl wm gw hh Rf ) wm_X7_51 wi_X7_counts wsel_X7_counts wn_X7 wc_X7_counts rfl rfl ⟨by decide, by decide, rfl⟩ rfl (Nat.le_of_ble_eq_true rfl) 7 rfl rfl 0 rfl [0, 1] [] (wr := []) rfl rfl rfl rfl rfl [0, 1] rfl [(mo, .inr (7, [.ref ma0, .ref ma1, .ref ma2, .int (nI ns), .ref ma4, .ref ma5, .int (nI mlen), .ref ma7, .int (bI gw), .ref ma9, .ref ma10, .ref ma11, .ref ma12, .int (nI mm), .int (nI pl), .ref ma15, .int (nI wm), .long hh])), (ma4, .inl (E.2.1, 3, .inl (aN (va_up Rf 0 (Rf 0 + 1)))))] rfl rfl [.int (-2 : Int32)] rfl 23 rfl ?_
      exact G_iret C hr dX7_seen_23 rfl () trivial rfl rfl

set_option maxHeartbeats 4000000 in
set_option maxRecDepth 100000 in
theorem m_misses_bad (l : Launch) (E : gE) (mo ma0 ma1 ma2 ma4 ma5 ma7 ma9 ma10 ma11 ma12 ma15 ns mlen mm pl wm : Nat) (gw : Bool) (hh : Int64) (Rf : Nat → Nat) (va : Int32) (hbad : inb va 10 = false) : FD l E yX7_misses cX7_misses 2 (some .int) { frames := 3, cells := 0, slots := 0, locals := 67 } [.ref mo, .int va] [(mo, .inr (7, [.ref ma0, .ref ma1, .ref ma2, .int (nI ns), .ref ma4, .ref ma5, .int (nI mlen), .ref ma7, .int (bI gw), .ref ma9, .ref ma10, .ref ma11, .ref ma12, .int (nI mm), .int (nI pl), .ref ma15, .int (nI wm), .long hh])), (ma4, .inl (E.2.1, 3, .inl (aN Rf)))] (some (.int (-2 : Int32))) [(mo, .inr (7, [.ref ma0, .ref ma1, .ref ma2, .int (nI ns), .ref ma4, .ref ma5, .int (nI mlen), .ref ma7, .int (bI gw), .ref ma9, .ref ma10, .ref ma11, .ref ma12, .int (nI mm), .int (nI pl), .ref ma15, .int (nI wm), .long hh])), (ma4, .inl (E.2.1, 3, .inl (aN (va_up Rf 0 (Rf 0 + 1)))))] := by
  refine Fn_ofL (own := RX7) (by decide) rfl rfl [(0, .ref mo), (1, .int va)] rfl ?_
  intro p e s m below meth c A C hr hnm
  refine G_iload_n C dX7_misses_0 rfl 1 rfl ?_
  refine G_iconst C dX7_misses_1 (v := nI 0) rfl 2 rfl ?_
  refine G_bipush C dX7_misses_2 (v := nI 9) (by decide) 4 rfl ?_
  refine G_cS C dX7_misses_4 (c_X7_within l E va (nI 0) (nI 9) ) wm_X7_43 wt_X7_within wn_X7 wc_X7_within rfl rfl ⟨by decide, by decide, rfl⟩ rfl (Nat.le_of_ble_eq_true rfl) [] [0, 1] (wr := [(mo, .inr (7, [.ref ma0, .ref ma1, .ref ma2, .int (nI ns), .ref ma4, .ref ma5, .int (nI mlen), .ref ma7, .int (bI gw), .ref ma9, .ref ma10, .ref ma11, .ref ma12, .int (nI mm), .int (nI pl), .ref ma15, .int (nI wm), .long hh])), (ma4, .inl (E.2.1, 3, .inl (aN Rf)))]) rfl rfl rfl rfl rfl [0, 1] rfl [(mo, .inr (7, [.ref ma0, .ref ma1, .ref ma2, .int (nI ns), .ref ma4, .ref ma5, .int (nI mlen), .ref ma7, .int (bI gw), .ref ma9, .ref ma10, .ref ma11, .ref ma12, .int (nI mm), .int (nI pl), .ref ma15, .int (nI wm), .long hh])), (ma4, .inl (E.2.1, 3, .inl (aN Rf)))] rfl rfl [.int (bI (decide ((nI 0).toInt ≤ va.toInt ∧ va.toInt ≤ (nI 9).toInt)))] rfl 7 rfl ?_
  refine G_if_ne C dX7_misses_7 17 rfl 10 rfl (wi_inb va (n := 10) rfl (by omega)) (fun h_1 => ?_) (fun h_1 => ?_)
  · exact absurd hbad (by simp [h_1])
  · refine G_aload_n C dX7_misses_10 rfl 11 rfl ?_
    refine G_bipush C dX7_misses_11 (v := (-2 : Int32)) (by decide) 13 rfl ?_
    refine G_cV C dX7_misses_13 (c_X7_counts0 l E mo ma0 ma1 ma2 ma4 ma5 ma7 ma9 ma10 ma11 ma12 ma15 ns mlen mm pl wm gw hh Rf ) wm_X7_51 wi_X7_counts wsel_X7_counts wn_X7 wc_X7_counts rfl rfl ⟨by decide, by decide, rfl⟩ rfl (Nat.le_of_ble_eq_true rfl) 7 rfl rfl 0 rfl [0, 1] [] (wr := []) rfl rfl rfl rfl rfl [0, 1] rfl [(mo, .inr (7, [.ref ma0, .ref ma1, .ref ma2, .int (nI ns), .ref ma4, .ref ma5, .int (nI mlen), .ref ma7, .int (bI gw), .ref ma9, .ref ma10, .ref ma11, .ref ma12, .int (nI mm), .int (nI pl), .ref ma15, .int (nI wm), .long hh])), (ma4, .inl (E.2.1, 3, .inl (aN (va_up Rf 0 (Rf 0 + 1)))))] rfl rfl [.int (-2 : Int32)] rfl 16 rfl ?_
    exact G_iret C hr dX7_misses_16 rfl () trivial rfl rfl

set_option maxHeartbeats 4000000 in
set_option maxRecDepth 100000 in
theorem m_points_ok (l : Launch) (E : gE) (mo ma0 ma1 ma2 ma4 ma5 ma7 ma9 ma10 ma11 ma12 ma15 ns mlen mm pl wm : Nat) (gw : Bool) (hh : Int64) (Nw : Nat → Nat) (En : Nat → Option Nat) (Ev : Nat → Nat) (ln : Nat → Nat) (n rn x : Nat) (hok : mok n ln Nw) (hr9 : rn < 10) (hx : x < 10) : FD l E yX7_points cX7_points 3 (some .int) { frames := 3, cells := 0, slots := 0, locals := 67 } [.ref mo, .int (nI rn), .int (nI x)] [(mo, .inr (7, [.ref ma0, .ref ma1, .ref ma2, .int (nI ns), .ref ma4, .ref ma5, .int (nI mlen), .ref ma7, .int (bI gw), .ref ma9, .ref ma10, .ref ma11, .ref ma12, .int (nI mm), .int (nI pl), .ref ma15, .int (nI wm), .long hh])), (ma0, .inl (E.2.1, 15, .inl (aN Nw))), (ma11, .inl (E.2.1, 10, .inl (aO En))), (ma12, .inl (E.2.1, 10, .inl (aN Ev)))] (some (.int (oI ((rr ln n (rn * n)).1 x)))) [(mo, .inr (7, [.ref ma0, .ref ma1, .ref ma2, .int (nI ns), .ref ma4, .ref ma5, .int (nI mlen), .ref ma7, .int (bI gw), .ref ma9, .ref ma10, .ref ma11, .ref ma12, .int (nI ((rr ln n (rn * n)).2.2)), .int (nI pl), .ref ma15, .int (nI wm), .long hh])), (ma0, .inl (E.2.1, 15, .inl (aN Nw))), (ma11, .inl (E.2.1, 10, .inl (aO ((rr ln n (rn * n)).1)))), (ma12, .inl (E.2.1, 10, .inl (aN ((rr ln n (rn * n)).2.1))))] := by
  refine Fn_ofL (own := RX7) (by decide) rfl rfl [(0, .ref mo), (1, .int (nI rn)), (2, .int (nI x))] rfl ?_
  intro p e s m below meth c A C hr hnm
  refine G_iload_n C dX7_points_0 rfl 1 rfl ?_
  refine G_iconst C dX7_points_1 (v := nI 0) rfl 2 rfl ?_
  refine G_bipush C dX7_points_2 (v := nI 9) (by decide) 4 rfl ?_
  refine G_cS C dX7_points_4 (c_X7_within l E (nI rn) (nI 0) (nI 9) ) wm_X7_43 wt_X7_within wn_X7 wc_X7_within rfl rfl ⟨by decide, by decide, rfl⟩ rfl (Nat.le_of_ble_eq_true rfl) [] [0, 1, 2, 3] (wr := [(mo, .inr (7, [.ref ma0, .ref ma1, .ref ma2, .int (nI ns), .ref ma4, .ref ma5, .int (nI mlen), .ref ma7, .int (bI gw), .ref ma9, .ref ma10, .ref ma11, .ref ma12, .int (nI mm), .int (nI pl), .ref ma15, .int (nI wm), .long hh])), (ma0, .inl (E.2.1, 15, .inl (aN Nw))), (ma11, .inl (E.2.1, 10, .inl (aO En))), (ma12, .inl (E.2.1, 10, .inl (aN Ev)))]) rfl rfl rfl rfl rfl [0, 1, 2, 3] rfl [(mo, .inr (7, [.ref ma0, .ref ma1, .ref ma2, .int (nI ns), .ref ma4, .ref ma5, .int (nI mlen), .ref ma7, .int (bI gw), .ref ma9, .ref ma10, .ref ma11, .ref ma12, .int (nI mm), .int (nI pl), .ref ma15, .int (nI wm), .long hh])), (ma0, .inl (E.2.1, 15, .inl (aN Nw))), (ma11, .inl (E.2.1, 10, .inl (aO En))), (ma12, .inl (E.2.1, 10, .inl (aN Ev)))] rfl rfl [.int (bI (decide ((nI 0).toInt ≤ (nI rn).toInt ∧ (nI rn).toInt ≤ (nI 9).toInt)))] rfl 7 rfl ?_
  refine G_if_eq_f C dX7_points_7 17 rfl 10 rfl (wi_ok (by omega) (by omega)) ?_
  refine G_iload_n C dX7_points_10 rfl 11 rfl ?_
  refine G_cS C dX7_points_11 (c_X7_isName l E (nI x) ) wm_X7_55 wt_X7_isName wn_X7 wc_X7_isName rfl rfl ⟨by decide, by decide, rfl⟩ rfl (Nat.le_of_ble_eq_true rfl) [] [0, 1, 2, 3] (wr := [(mo, .inr (7, [.ref ma0, .ref ma1, .ref ma2, .int (nI ns), .ref ma4, .ref ma5, .int (nI mlen), .ref ma7, .int (bI gw), .ref ma9, .ref ma10, .ref ma11, .ref ma12, .int (nI mm), .int (nI pl), .ref ma15, .int (nI wm), .long hh])), (ma0, .inl (E.2.1, 15, .inl (aN Nw))), (ma11, .inl (E.2.1, 10, .inl (aO En))), (ma12, .inl (E.2.1, 10, .inl (aN Ev)))]) rfl rfl rfl rfl rfl [0, 1, 2, 3] rfl [(mo, .inr (7, [.ref ma0, .ref ma1, .ref ma2, .int (nI ns), .ref ma4, .ref ma5, .int (nI mlen), .ref ma7, .int (bI gw), .ref ma9, .ref ma10, .ref ma11, .ref ma12, .int (nI mm), .int (nI pl), .ref ma15, .int (nI wm), .long hh])), (ma0, .inl (E.2.1, 15, .inl (aN Nw))), (ma11, .inl (E.2.1, 10, .inl (aO En))), (ma12, .inl (E.2.1, 10, .inl (aN Ev)))] rfl rfl [.int (bI (inb (nI x) 10))] rfl 14 rfl ?_
  refine G_if_ne_t C dX7_points_14 24 rfl (inbT hx (by omega)) ?_
  refine G_aload_n C dX7_points_24 rfl 25 rfl ?_
  refine G_iload_n C dX7_points_25 rfl 26 rfl ?_
  refine G_cV C dX7_points_26 (c_X7_runs l E mo ma0 ma1 ma2 ma4 ma5 ma7 ma9 ma10 ma11 ma12 ma15 ns mlen mm pl wm gw hh Nw En Ev ln n rn (by first | assumption | omega) (by omega)) wm_X7_133 wi_X7_runs wsel_X7_runs wn_X7 wc_X7_runs rfl rfl ⟨by decide, by decide, rfl⟩ rfl (Nat.le_of_ble_eq_true rfl) 7 rfl rfl 0 rfl [0, 1, 2, 3] [] (wr := []) rfl rfl rfl rfl rfl [0, 1, 2, 3] rfl [(mo, .inr (7, [.ref ma0, .ref ma1, .ref ma2, .int (nI ns), .ref ma4, .ref ma5, .int (nI mlen), .ref ma7, .int (bI gw), .ref ma9, .ref ma10, .ref ma11, .ref ma12, .int (nI ((rr ln n (rn * n)).2.2)), .int (nI pl), .ref ma15, .int (nI wm), .long hh])), (ma0, .inl (E.2.1, 15, .inl (aN Nw))), (ma11, .inl (E.2.1, 10, .inl (aO ((rr ln n (rn * n)).1)))), (ma12, .inl (E.2.1, 10, .inl (aN ((rr ln n (rn * n)).2.1))))] rfl rfl [] rfl 29 rfl ?_
  refine G_aload_n C dX7_points_29 rfl 30 rfl ?_
  refine G_getf C dX7_points_30 wF_X7 wf_X7_34 (f := 11) (by decide) (ci := 7) rfl 0 rfl rfl 33 rfl ?_
  refine G_iload_n C dX7_points_33 rfl 34 rfl ?_
  refine G_ialdO C dX7_points_34 2 rfl rfl (by omega) 35 rfl ?_
  exact G_iret C hr dX7_points_35 rfl () trivial rfl rfl

set_option maxHeartbeats 4000000 in
set_option maxRecDepth 100000 in
theorem m_seen_ok (l : Launch) (E : gE) (mo ma0 ma1 ma2 ma4 ma5 ma7 ma9 ma10 ma11 ma12 ma15 ns mlen mm pl wm : Nat) (gw : Bool) (hh : Int64) (Nw : Nat → Nat) (En : Nat → Option Nat) (Ev : Nat → Nat) (ln : Nat → Nat) (n rn x : Nat) (hok : mok n ln Nw) (hr9 : rn < 10) (hx : x < 10) : FD l E yX7_seen cX7_seen 3 (some .int) { frames := 3, cells := 0, slots := 0, locals := 67 } [.ref mo, .int (nI rn), .int (nI x)] [(mo, .inr (7, [.ref ma0, .ref ma1, .ref ma2, .int (nI ns), .ref ma4, .ref ma5, .int (nI mlen), .ref ma7, .int (bI gw), .ref ma9, .ref ma10, .ref ma11, .ref ma12, .int (nI mm), .int (nI pl), .ref ma15, .int (nI wm), .long hh])), (ma0, .inl (E.2.1, 15, .inl (aN Nw))), (ma11, .inl (E.2.1, 10, .inl (aO En))), (ma12, .inl (E.2.1, 10, .inl (aN Ev)))] (some (.int (nI ((rr ln n (rn * n)).2.1 x)))) [(mo, .inr (7, [.ref ma0, .ref ma1, .ref ma2, .int (nI ns), .ref ma4, .ref ma5, .int (nI mlen), .ref ma7, .int (bI gw), .ref ma9, .ref ma10, .ref ma11, .ref ma12, .int (nI ((rr ln n (rn * n)).2.2)), .int (nI pl), .ref ma15, .int (nI wm), .long hh])), (ma0, .inl (E.2.1, 15, .inl (aN Nw))), (ma11, .inl (E.2.1, 10, .inl (aO ((rr ln n (rn * n)).1)))), (ma12, .inl (E.2.1, 10, .inl (aN ((rr ln n (rn * n)).2.1))))] := by
  refine Fn_ofL (own := RX7) (by decide) rfl rfl [(0, .ref mo), (1, .int (nI rn)), (2, .int (nI x))] rfl ?_
  intro p e s m below meth c A C hr hnm
  refine G_iload_n C dX7_seen_0 rfl 1 rfl ?_
  refine G_iconst C dX7_seen_1 (v := nI 0) rfl 2 rfl ?_
  refine G_bipush C dX7_seen_2 (v := nI 9) (by decide) 4 rfl ?_
  refine G_cS C dX7_seen_4 (c_X7_within l E (nI rn) (nI 0) (nI 9) ) wm_X7_43 wt_X7_within wn_X7 wc_X7_within rfl rfl ⟨by decide, by decide, rfl⟩ rfl (Nat.le_of_ble_eq_true rfl) [] [0, 1, 2, 3] (wr := [(mo, .inr (7, [.ref ma0, .ref ma1, .ref ma2, .int (nI ns), .ref ma4, .ref ma5, .int (nI mlen), .ref ma7, .int (bI gw), .ref ma9, .ref ma10, .ref ma11, .ref ma12, .int (nI mm), .int (nI pl), .ref ma15, .int (nI wm), .long hh])), (ma0, .inl (E.2.1, 15, .inl (aN Nw))), (ma11, .inl (E.2.1, 10, .inl (aO En))), (ma12, .inl (E.2.1, 10, .inl (aN Ev)))]) rfl rfl rfl rfl rfl [0, 1, 2, 3] rfl [(mo, .inr (7, [.ref ma0, .ref ma1, .ref ma2, .int (nI ns), .ref ma4, .ref ma5, .int (nI mlen), .ref ma7, .int (bI gw), .ref ma9, .ref ma10, .ref ma11, .ref ma12, .int (nI mm), .int (nI pl), .ref ma15, .int (nI wm), .long hh])), (ma0, .inl (E.2.1, 15, .inl (aN Nw))), (ma11, .inl (E.2.1, 10, .inl (aO En))), (ma12, .inl (E.2.1, 10, .inl (aN Ev)))] rfl rfl [.int (bI (decide ((nI 0).toInt ≤ (nI rn).toInt ∧ (nI rn).toInt ≤ (nI 9).toInt)))] rfl 7 rfl ?_
  refine G_if_eq_f C dX7_seen_7 17 rfl 10 rfl (wi_ok (by omega) (by omega)) ?_
  refine G_iload_n C dX7_seen_10 rfl 11 rfl ?_
  refine G_cS C dX7_seen_11 (c_X7_isName l E (nI x) ) wm_X7_55 wt_X7_isName wn_X7 wc_X7_isName rfl rfl ⟨by decide, by decide, rfl⟩ rfl (Nat.le_of_ble_eq_true rfl) [] [0, 1, 2, 3] (wr := [(mo, .inr (7, [.ref ma0, .ref ma1, .ref ma2, .int (nI ns), .ref ma4, .ref ma5, .int (nI mlen), .ref ma7, .int (bI gw), .ref ma9, .ref ma10, .ref ma11, .ref ma12, .int (nI mm), .int (nI pl), .ref ma15, .int (nI wm), .long hh])), (ma0, .inl (E.2.1, 15, .inl (aN Nw))), (ma11, .inl (E.2.1, 10, .inl (aO En))), (ma12, .inl (E.2.1, 10, .inl (aN Ev)))]) rfl rfl rfl rfl rfl [0, 1, 2, 3] rfl [(mo, .inr (7, [.ref ma0, .ref ma1, .ref ma2, .int (nI ns), .ref ma4, .ref ma5, .int (nI mlen), .ref ma7, .int (bI gw), .ref ma9, .ref ma10, .ref ma11, .ref ma12, .int (nI mm), .int (nI pl), .ref ma15, .int (nI wm), .long hh])), (ma0, .inl (E.2.1, 15, .inl (aN Nw))), (ma11, .inl (E.2.1, 10, .inl (aO En))), (ma12, .inl (E.2.1, 10, .inl (aN Ev)))] rfl rfl [.int (bI (inb (nI x) 10))] rfl 14 rfl ?_
  refine G_if_ne_t C dX7_seen_14 24 rfl (inbT hx (by omega)) ?_
  refine G_aload_n C dX7_seen_24 rfl 25 rfl ?_
  refine G_iload_n C dX7_seen_25 rfl 26 rfl ?_
  refine G_cV C dX7_seen_26 (c_X7_runs l E mo ma0 ma1 ma2 ma4 ma5 ma7 ma9 ma10 ma11 ma12 ma15 ns mlen mm pl wm gw hh Nw En Ev ln n rn (by first | assumption | omega) (by omega)) wm_X7_133 wi_X7_runs wsel_X7_runs wn_X7 wc_X7_runs rfl rfl ⟨by decide, by decide, rfl⟩ rfl (Nat.le_of_ble_eq_true rfl) 7 rfl rfl 0 rfl [0, 1, 2, 3] [] (wr := []) rfl rfl rfl rfl rfl [0, 1, 2, 3] rfl [(mo, .inr (7, [.ref ma0, .ref ma1, .ref ma2, .int (nI ns), .ref ma4, .ref ma5, .int (nI mlen), .ref ma7, .int (bI gw), .ref ma9, .ref ma10, .ref ma11, .ref ma12, .int (nI ((rr ln n (rn * n)).2.2)), .int (nI pl), .ref ma15, .int (nI wm), .long hh])), (ma0, .inl (E.2.1, 15, .inl (aN Nw))), (ma11, .inl (E.2.1, 10, .inl (aO ((rr ln n (rn * n)).1)))), (ma12, .inl (E.2.1, 10, .inl (aN ((rr ln n (rn * n)).2.1))))] rfl rfl [] rfl 29 rfl ?_
  refine G_aload_n C dX7_seen_29 rfl 30 rfl ?_
  refine G_getf C dX7_seen_30 wF_X7 wf_X7_37 (f := 12) (by decide) (ci := 7) rfl 0 rfl rfl 33 rfl ?_
  refine G_iload_n C dX7_seen_33 rfl 34 rfl ?_
  refine G_ialdN C dX7_seen_34 3 rfl rfl (by omega) 35 rfl ?_
  exact G_iret C hr dX7_seen_35 rfl () trivial rfl rfl

set_option maxHeartbeats 4000000 in
set_option maxRecDepth 100000 in
theorem m_misses_ok (l : Launch) (E : gE) (mo ma0 ma1 ma2 ma4 ma5 ma7 ma9 ma10 ma11 ma12 ma15 ns mlen mm pl wm : Nat) (gw : Bool) (hh : Int64) (Nw : Nat → Nat) (En : Nat → Option Nat) (Ev : Nat → Nat) (ln : Nat → Nat) (n rn : Nat) (hok : mok n ln Nw) (hr9 : rn < 10) : FD l E yX7_misses cX7_misses 2 (some .int) { frames := 3, cells := 0, slots := 0, locals := 67 } [.ref mo, .int (nI rn)] [(mo, .inr (7, [.ref ma0, .ref ma1, .ref ma2, .int (nI ns), .ref ma4, .ref ma5, .int (nI mlen), .ref ma7, .int (bI gw), .ref ma9, .ref ma10, .ref ma11, .ref ma12, .int (nI mm), .int (nI pl), .ref ma15, .int (nI wm), .long hh])), (ma0, .inl (E.2.1, 15, .inl (aN Nw))), (ma11, .inl (E.2.1, 10, .inl (aO En))), (ma12, .inl (E.2.1, 10, .inl (aN Ev)))] (some (.int (nI ((rr ln n (rn * n)).2.2)))) [(mo, .inr (7, [.ref ma0, .ref ma1, .ref ma2, .int (nI ns), .ref ma4, .ref ma5, .int (nI mlen), .ref ma7, .int (bI gw), .ref ma9, .ref ma10, .ref ma11, .ref ma12, .int (nI ((rr ln n (rn * n)).2.2)), .int (nI pl), .ref ma15, .int (nI wm), .long hh])), (ma0, .inl (E.2.1, 15, .inl (aN Nw))), (ma11, .inl (E.2.1, 10, .inl (aO ((rr ln n (rn * n)).1)))), (ma12, .inl (E.2.1, 10, .inl (aN ((rr ln n (rn * n)).2.1))))] := by
  refine Fn_ofL (own := RX7) (by decide) rfl rfl [(0, .ref mo), (1, .int (nI rn))] rfl ?_
  intro p e s m below meth c A C hr hnm
  refine G_iload_n C dX7_misses_0 rfl 1 rfl ?_
  refine G_iconst C dX7_misses_1 (v := nI 0) rfl 2 rfl ?_
  refine G_bipush C dX7_misses_2 (v := nI 9) (by decide) 4 rfl ?_
  refine G_cS C dX7_misses_4 (c_X7_within l E (nI rn) (nI 0) (nI 9) ) wm_X7_43 wt_X7_within wn_X7 wc_X7_within rfl rfl ⟨by decide, by decide, rfl⟩ rfl (Nat.le_of_ble_eq_true rfl) [] [0, 1, 2, 3] (wr := [(mo, .inr (7, [.ref ma0, .ref ma1, .ref ma2, .int (nI ns), .ref ma4, .ref ma5, .int (nI mlen), .ref ma7, .int (bI gw), .ref ma9, .ref ma10, .ref ma11, .ref ma12, .int (nI mm), .int (nI pl), .ref ma15, .int (nI wm), .long hh])), (ma0, .inl (E.2.1, 15, .inl (aN Nw))), (ma11, .inl (E.2.1, 10, .inl (aO En))), (ma12, .inl (E.2.1, 10, .inl (aN Ev)))]) rfl rfl rfl rfl rfl [0, 1, 2, 3] rfl [(mo, .inr (7, [.ref ma0, .ref ma1, .ref ma2, .int (nI ns), .ref ma4, .ref ma5, .int (nI mlen), .ref ma7, .int (bI gw), .ref ma9, .ref ma10, .ref ma11, .ref ma12, .int (nI mm), .int (nI pl), .ref ma15, .int (nI wm), .long hh])), (ma0, .inl (E.2.1, 15, .inl (aN Nw))), (ma11, .inl (E.2.1, 10, .inl (aO En))), (ma12, .inl (E.2.1, 10, .inl (aN Ev)))] rfl rfl [.int (bI (decide ((nI 0).toInt ≤ (nI rn).toInt ∧ (nI rn).toInt ≤ (nI 9).toInt)))] rfl 7 rfl ?_
  refine G_if_ne_t C dX7_misses_7 17 rfl (wi_ok (by omega) (by omega)) ?_
  refine G_aload_n C dX7_misses_17 rfl 18 rfl ?_
  refine G_iload_n C dX7_misses_18 rfl 19 rfl ?_
  refine G_cV C dX7_misses_19 (c_X7_runs l E mo ma0 ma1 ma2 ma4 ma5 ma7 ma9 ma10 ma11 ma12 ma15 ns mlen mm pl wm gw hh Nw En Ev ln n rn (by first | assumption | omega) (by omega)) wm_X7_133 wi_X7_runs wsel_X7_runs wn_X7 wc_X7_runs rfl rfl ⟨by decide, by decide, rfl⟩ rfl (Nat.le_of_ble_eq_true rfl) 7 rfl rfl 0 rfl [0, 1, 2, 3] [] (wr := []) rfl rfl rfl rfl rfl [0, 1, 2, 3] rfl [(mo, .inr (7, [.ref ma0, .ref ma1, .ref ma2, .int (nI ns), .ref ma4, .ref ma5, .int (nI mlen), .ref ma7, .int (bI gw), .ref ma9, .ref ma10, .ref ma11, .ref ma12, .int (nI ((rr ln n (rn * n)).2.2)), .int (nI pl), .ref ma15, .int (nI wm), .long hh])), (ma0, .inl (E.2.1, 15, .inl (aN Nw))), (ma11, .inl (E.2.1, 10, .inl (aO ((rr ln n (rn * n)).1)))), (ma12, .inl (E.2.1, 10, .inl (aN ((rr ln n (rn * n)).2.1))))] rfl rfl [] rfl 22 rfl ?_
  refine G_aload_n C dX7_misses_22 rfl 23 rfl ?_
  refine G_getf C dX7_misses_23 wF_X7 wf_X7_127 (f := 13) (by decide) (ci := 7) rfl 0 rfl rfl 26 rfl ?_
  exact G_iret C hr dX7_misses_26 rfl () trivial rfl rfl

set_option maxHeartbeats 4000000 in
set_option maxRecDepth 100000 in
theorem m_type_bad (l : Launch) (E : gE) (mo ma0 ma1 ma2 ma4 ma5 ma7 ma9 ma10 ma11 ma12 ma15 ns mlen mm pl wm : Nat) (gw : Bool) (hh : Int64) (Rf : Nat → Nat) (va : Int32) (hbad : inb va 128 = false) : FD l E yX7_type cX7_type 2 (some .int) { frames := 1, cells := 0, slots := 0, locals := 22 } [.ref mo, .int va] [(mo, .inr (7, [.ref ma0, .ref ma1, .ref ma2, .int (nI ns), .ref ma4, .ref ma5, .int (nI mlen), .ref ma7, .int (bI gw), .ref ma9, .ref ma10, .ref ma11, .ref ma12, .int (nI mm), .int (nI pl), .ref ma15, .int (nI wm), .long hh])), (ma4, .inl (E.2.1, 3, .inl (aN Rf)))] (some (.int (-2 : Int32))) [(mo, .inr (7, [.ref ma0, .ref ma1, .ref ma2, .int (nI ns), .ref ma4, .ref ma5, .int (nI mlen), .ref ma7, .int (bI gw), .ref ma9, .ref ma10, .ref ma11, .ref ma12, .int (nI mm), .int (nI pl), .ref ma15, .int (nI wm), .long hh])), (ma4, .inl (E.2.1, 3, .inl (aN (va_up Rf 0 (Rf 0 + 1)))))] := by
  refine Fn_ofL (own := RX7) (by decide) rfl rfl [(0, .ref mo), (1, .int va)] rfl ?_
  intro p e s m below meth c A C hr hnm
  refine G_iload_n C dX7_type_0 rfl 1 rfl ?_
  refine G_iconst C dX7_type_1 (v := nI 0) rfl 2 rfl ?_
  refine G_bipush C dX7_type_2 (v := nI 127) (by decide) 4 rfl ?_
  refine G_cS C dX7_type_4 (c_X7_within l E va (nI 0) (nI 127) ) wm_X7_43 wt_X7_within wn_X7 wc_X7_within rfl rfl ⟨by decide, by decide, rfl⟩ rfl (Nat.le_of_ble_eq_true rfl) [] [0, 1] (wr := [(mo, .inr (7, [.ref ma0, .ref ma1, .ref ma2, .int (nI ns), .ref ma4, .ref ma5, .int (nI mlen), .ref ma7, .int (bI gw), .ref ma9, .ref ma10, .ref ma11, .ref ma12, .int (nI mm), .int (nI pl), .ref ma15, .int (nI wm), .long hh])), (ma4, .inl (E.2.1, 3, .inl (aN Rf)))]) rfl rfl rfl rfl rfl [0, 1] rfl [(mo, .inr (7, [.ref ma0, .ref ma1, .ref ma2, .int (nI ns), .ref ma4, .ref ma5, .int (nI mlen), .ref ma7, .int (bI gw), .ref ma9, .ref ma10, .ref ma11, .ref ma12, .int (nI mm), .int (nI pl), .ref ma15, .int (nI wm), .long hh])), (ma4, .inl (E.2.1, 3, .inl (aN Rf)))] rfl rfl [.int (bI (decide ((nI 0).toInt ≤ va.toInt ∧ va.toInt ≤ (nI 127).toInt)))] rfl 7 rfl ?_
  refine G_if_ne C dX7_type_7 17 rfl 10 rfl (wi_inb va (n := 128) rfl (by omega)) (fun h_1 => ?_) (fun h_1 => ?_)
  · exact absurd hbad (by simp [h_1])
  · refine G_aload_n C dX7_type_10 rfl 11 rfl ?_
    refine G_bipush C dX7_type_11 (v := (-2 : Int32)) (by decide) 13 rfl ?_
    refine G_cV C dX7_type_13 (c_X7_counts0 l E mo ma0 ma1 ma2 ma4 ma5 ma7 ma9 ma10 ma11 ma12 ma15 ns mlen mm pl wm gw hh Rf ) wm_X7_51 wi_X7_counts wsel_X7_counts wn_X7 wc_X7_counts rfl rfl ⟨by decide, by decide, rfl⟩ rfl (Nat.le_of_ble_eq_true rfl) 7 rfl rfl 0 rfl [0, 1] [] (wr := []) rfl rfl rfl rfl rfl [0, 1] rfl [(mo, .inr (7, [.ref ma0, .ref ma1, .ref ma2, .int (nI ns), .ref ma4, .ref ma5, .int (nI mlen), .ref ma7, .int (bI gw), .ref ma9, .ref ma10, .ref ma11, .ref ma12, .int (nI mm), .int (nI pl), .ref ma15, .int (nI wm), .long hh])), (ma4, .inl (E.2.1, 3, .inl (aN (va_up Rf 0 (Rf 0 + 1)))))] rfl rfl [.int (-2 : Int32)] rfl 16 rfl ?_
    exact G_iret C hr dX7_type_16 rfl () trivial rfl rfl

set_option maxHeartbeats 4000000 in
set_option maxRecDepth 100000 in
theorem m_type_full (l : Launch) (E : gE) (mo ma0 ma1 ma2 ma4 ma5 ma7 ma9 ma10 ma11 ma12 ma15 ns mlen mm pl wm : Nat) (gw : Bool) (hh : Int64) (Rf : Nat → Nat) (cb : Nat) (hcb : cb < 128) (hl : mlen = 120) : FD l E yX7_type cX7_type 2 (some .int) { frames := 1, cells := 0, slots := 0, locals := 22 } [.ref mo, .int (nI cb)] [(mo, .inr (7, [.ref ma0, .ref ma1, .ref ma2, .int (nI ns), .ref ma4, .ref ma5, .int (nI mlen), .ref ma7, .int (bI gw), .ref ma9, .ref ma10, .ref ma11, .ref ma12, .int (nI mm), .int (nI pl), .ref ma15, .int (nI wm), .long hh])), (ma4, .inl (E.2.1, 3, .inl (aN Rf)))] (some (.int (-4 : Int32))) [(mo, .inr (7, [.ref ma0, .ref ma1, .ref ma2, .int (nI ns), .ref ma4, .ref ma5, .int (nI mlen), .ref ma7, .int (bI gw), .ref ma9, .ref ma10, .ref ma11, .ref ma12, .int (nI mm), .int (nI pl), .ref ma15, .int (nI wm), .long hh])), (ma4, .inl (E.2.1, 3, .inl (aN (va_up Rf 2 (Rf 2 + 1)))))] := by
  refine Fn_ofL (own := RX7) (by decide) rfl rfl [(0, .ref mo), (1, .int (nI cb))] rfl ?_
  intro p e s m below meth c A C hr hnm
  refine G_iload_n C dX7_type_0 rfl 1 rfl ?_
  refine G_iconst C dX7_type_1 (v := nI 0) rfl 2 rfl ?_
  refine G_bipush C dX7_type_2 (v := nI 127) (by decide) 4 rfl ?_
  refine G_cS C dX7_type_4 (c_X7_within l E (nI cb) (nI 0) (nI 127) ) wm_X7_43 wt_X7_within wn_X7 wc_X7_within rfl rfl ⟨by decide, by decide, rfl⟩ rfl (Nat.le_of_ble_eq_true rfl) [] [0, 1] (wr := [(mo, .inr (7, [.ref ma0, .ref ma1, .ref ma2, .int (nI ns), .ref ma4, .ref ma5, .int (nI mlen), .ref ma7, .int (bI gw), .ref ma9, .ref ma10, .ref ma11, .ref ma12, .int (nI mm), .int (nI pl), .ref ma15, .int (nI wm), .long hh])), (ma4, .inl (E.2.1, 3, .inl (aN Rf)))]) rfl rfl rfl rfl rfl [0, 1] rfl [(mo, .inr (7, [.ref ma0, .ref ma1, .ref ma2, .int (nI ns), .ref ma4, .ref ma5, .int (nI mlen), .ref ma7, .int (bI gw), .ref ma9, .ref ma10, .ref ma11, .ref ma12, .int (nI mm), .int (nI pl), .ref ma15, .int (nI wm), .long hh])), (ma4, .inl (E.2.1, 3, .inl (aN Rf)))] rfl rfl [.int (bI (decide ((nI 0).toInt ≤ (nI cb).toInt ∧ (nI cb).toInt ≤ (nI 127).toInt)))] rfl 7 rfl ?_
  refine G_if_ne_t C dX7_type_7 17 rfl (wi_ok (by omega) (by omega)) ?_
  refine G_aload_n C dX7_type_17 rfl 18 rfl ?_
  refine G_getf C dX7_type_18 wF_X7 wf_X7_136 (f := 6) (by decide) (ci := 7) rfl 0 rfl rfl 21 rfl ?_
  refine G_bipush C dX7_type_21 (v := nI 120) (by decide) 23 rfl ?_
  refine G_icmp_ne_f C dX7_type_23 33 rfl 26 rfl (by rw [hl]) ?_
  refine G_aload_n C dX7_type_26 rfl 27 rfl ?_
  refine G_bipush C dX7_type_27 (v := (-4 : Int32)) (by decide) 29 rfl ?_
  refine G_cV C dX7_type_29 (c_X7_counts2 l E mo ma0 ma1 ma2 ma4 ma5 ma7 ma9 ma10 ma11 ma12 ma15 ns mlen mm pl wm gw hh Rf ) wm_X7_51 wi_X7_counts wsel_X7_counts wn_X7 wc_X7_counts rfl rfl ⟨by decide, by decide, rfl⟩ rfl (Nat.le_of_ble_eq_true rfl) 7 rfl rfl 0 rfl [0, 1] [] (wr := []) rfl rfl rfl rfl rfl [0, 1] rfl [(mo, .inr (7, [.ref ma0, .ref ma1, .ref ma2, .int (nI ns), .ref ma4, .ref ma5, .int (nI mlen), .ref ma7, .int (bI gw), .ref ma9, .ref ma10, .ref ma11, .ref ma12, .int (nI mm), .int (nI pl), .ref ma15, .int (nI wm), .long hh])), (ma4, .inl (E.2.1, 3, .inl (aN (va_up Rf 2 (Rf 2 + 1)))))] rfl rfl [.int (-4 : Int32)] rfl 32 rfl ?_
  exact G_iret C hr dX7_type_32 rfl () trivial rfl rfl

set_option maxHeartbeats 4000000 in
set_option maxRecDepth 100000 in
theorem m_type_ok (l : Launch) (E : gE) (mo ma0 ma1 ma2 ma4 ma5 ma7 ma9 ma10 ma11 ma12 ma15 ns mlen mm pl wm : Nat) (gw : Bool) (hh : Int64) (Bt : Nat → Nat) (cb : Nat) (hcb : cb < 128) (hl : mlen < 120) : FD l E yX7_type cX7_type 2 (some .int) { frames := 1, cells := 0, slots := 0, locals := 22 } [.ref mo, .int (nI cb)] [(mo, .inr (7, [.ref ma0, .ref ma1, .ref ma2, .int (nI ns), .ref ma4, .ref ma5, .int (nI mlen), .ref ma7, .int (bI gw), .ref ma9, .ref ma10, .ref ma11, .ref ma12, .int (nI mm), .int (nI pl), .ref ma15, .int (nI wm), .long hh])), (ma5, .inl (E.2.1, 120, .inl (aN Bt)))] (some (.int (nI (mlen + 1)))) [(mo, .inr (7, [.ref ma0, .ref ma1, .ref ma2, .int (nI ns), .ref ma4, .ref ma5, .int (nI (mlen + 1)), .ref ma7, .int (bI gw), .ref ma9, .ref ma10, .ref ma11, .ref ma12, .int (nI mm), .int (nI pl), .ref ma15, .int (nI wm), .long hh])), (ma5, .inl (E.2.1, 120, .inl (aN (va_up Bt mlen cb))))] := by
  refine Fn_ofL (own := RX7) (by decide) rfl rfl [(0, .ref mo), (1, .int (nI cb))] rfl ?_
  intro p e s m below meth c A C hr hnm
  refine G_iload_n C dX7_type_0 rfl 1 rfl ?_
  refine G_iconst C dX7_type_1 (v := nI 0) rfl 2 rfl ?_
  refine G_bipush C dX7_type_2 (v := nI 127) (by decide) 4 rfl ?_
  refine G_cS C dX7_type_4 (c_X7_within l E (nI cb) (nI 0) (nI 127) ) wm_X7_43 wt_X7_within wn_X7 wc_X7_within rfl rfl ⟨by decide, by decide, rfl⟩ rfl (Nat.le_of_ble_eq_true rfl) [] [0, 1] (wr := [(mo, .inr (7, [.ref ma0, .ref ma1, .ref ma2, .int (nI ns), .ref ma4, .ref ma5, .int (nI mlen), .ref ma7, .int (bI gw), .ref ma9, .ref ma10, .ref ma11, .ref ma12, .int (nI mm), .int (nI pl), .ref ma15, .int (nI wm), .long hh])), (ma5, .inl (E.2.1, 120, .inl (aN Bt)))]) rfl rfl rfl rfl rfl [0, 1] rfl [(mo, .inr (7, [.ref ma0, .ref ma1, .ref ma2, .int (nI ns), .ref ma4, .ref ma5, .int (nI mlen), .ref ma7, .int (bI gw), .ref ma9, .ref ma10, .ref ma11, .ref ma12, .int (nI mm), .int (nI pl), .ref ma15, .int (nI wm), .long hh])), (ma5, .inl (E.2.1, 120, .inl (aN Bt)))] rfl rfl [.int (bI (decide ((nI 0).toInt ≤ (nI cb).toInt ∧ (nI cb).toInt ≤ (nI 127).toInt)))] rfl 7 rfl ?_
  refine G_if_ne_t C dX7_type_7 17 rfl (wi_ok (by omega) (by omega)) ?_
  refine G_aload_n C dX7_type_17 rfl 18 rfl ?_
  refine G_getf C dX7_type_18 wF_X7 wf_X7_136 (f := 6) (by decide) (ci := 7) rfl 0 rfl rfl 21 rfl ?_
  refine G_bipush C dX7_type_21 (v := nI 120) (by decide) 23 rfl ?_
  refine G_icmp_ne_t C dX7_type_23 33 rfl (by rw [nI_eq (by omega) (by omega)]; omega) ?_
  refine G_aload_n C dX7_type_33 rfl 34 rfl ?_
  refine G_getf C dX7_type_34 wF_X7 wf_X7_22 (f := 5) (by decide) (ci := 7) rfl 0 rfl rfl 37 rfl ?_
  refine G_aload_n C dX7_type_37 rfl 38 rfl ?_
  refine G_getf C dX7_type_38 wF_X7 wf_X7_136 (f := 6) (by decide) (ci := 7) rfl 0 rfl rfl 41 rfl ?_
  refine G_iload_n C dX7_type_41 rfl 42 rfl ?_
  refine G_iastN C dX7_type_42 1 rfl rfl (x := cb) (by omega) [(mo, .inr (7, [.ref ma0, .ref ma1, .ref ma2, .int (nI ns), .ref ma4, .ref ma5, .int (nI mlen), .ref ma7, .int (bI gw), .ref ma9, .ref ma10, .ref ma11, .ref ma12, .int (nI mm), .int (nI pl), .ref ma15, .int (nI wm), .long hh])), (ma5, .inl (E.2.1, 120, .inl (aN (va_up Bt mlen cb))))] rfl 43 rfl ?_
  refine G_aload_n C dX7_type_43 rfl 44 rfl ?_
  refine G_dup C dX7_type_44 rfl 45 rfl ?_
  refine G_getf C dX7_type_45 wF_X7 wf_X7_136 (f := 6) (by decide) (ci := 7) rfl 0 rfl rfl 48 rfl ?_
  refine G_iconst C dX7_type_48 (v := nI 1) rfl 49 rfl ?_
  refine G_iadd C dX7_type_49 (v := nI (mlen + 1)) (nI_add _ _) 50 rfl ?_
  refine G_putf C dX7_type_50 wF_X7 wf_X7_136 (f := 6) (by decide) (ci := 7) rfl tyX7_ok nmX7 rfl 0 rfl rfl rfl (Nat.le_of_ble_eq_true rfl) [(mo, .inr (7, [.ref ma0, .ref ma1, .ref ma2, .int (nI ns), .ref ma4, .ref ma5, .int (nI (mlen + 1)), .ref ma7, .int (bI gw), .ref ma9, .ref ma10, .ref ma11, .ref ma12, .int (nI mm), .int (nI pl), .ref ma15, .int (nI wm), .long hh])), (ma5, .inl (E.2.1, 120, .inl (aN (va_up Bt mlen cb))))] rfl 53 rfl ?_
  refine G_aload_n C dX7_type_53 rfl 54 rfl ?_
  refine G_getf C dX7_type_54 wF_X7 wf_X7_136 (f := 6) (by decide) (ci := 7) rfl 0 rfl rfl 57 rfl ?_
  exact G_iret C hr dX7_type_57 rfl () trivial rfl rfl

set_option maxHeartbeats 4000000 in
set_option maxRecDepth 100000 in
theorem m_clear (l : Launch) (E : gE) (mo ma0 ma1 ma2 ma4 ma5 ma7 ma9 ma10 ma11 ma12 ma15 ns mlen mm pl wm : Nat) (gw : Bool) (hh : Int64)  : FD l E yX7_clear cX7_clear 2 (some .int) { frames := 0, cells := 0, slots := 0, locals := 0 } [.ref mo] [(mo, .inr (7, [.ref ma0, .ref ma1, .ref ma2, .int (nI ns), .ref ma4, .ref ma5, .int (nI mlen), .ref ma7, .int (bI gw), .ref ma9, .ref ma10, .ref ma11, .ref ma12, .int (nI mm), .int (nI pl), .ref ma15, .int (nI wm), .long hh]))] (some (.int (nI mlen))) [(mo, .inr (7, [.ref ma0, .ref ma1, .ref ma2, .int (nI ns), .ref ma4, .ref ma5, .int (nI 0), .ref ma7, .int (bI gw), .ref ma9, .ref ma10, .ref ma11, .ref ma12, .int (nI mm), .int (nI pl), .ref ma15, .int (nI wm), .long hh]))] := by
  refine Fn_ofL (own := RX7) (by decide) rfl rfl [(0, .ref mo)] rfl ?_
  intro p e s m below meth c A C hr hnm
  refine G_aload_n C dX7_clear_0 rfl 1 rfl ?_
  refine G_getf C dX7_clear_1 wF_X7 wf_X7_136 (f := 6) (by decide) (ci := 7) rfl 0 rfl rfl 4 rfl ?_
  refine G_istore_n C dX7_clear_4 (by decide) [(1, .int (nI mlen)), (0, .ref mo)] rfl 5 rfl ?_
  refine G_aload_n C dX7_clear_5 rfl 6 rfl ?_
  refine G_iconst C dX7_clear_6 (v := nI 0) rfl 7 rfl ?_
  refine G_putf C dX7_clear_7 wF_X7 wf_X7_136 (f := 6) (by decide) (ci := 7) rfl tyX7_ok nmX7 rfl 0 rfl rfl rfl (Nat.le_of_ble_eq_true rfl) [(mo, .inr (7, [.ref ma0, .ref ma1, .ref ma2, .int (nI ns), .ref ma4, .ref ma5, .int (nI 0), .ref ma7, .int (bI gw), .ref ma9, .ref ma10, .ref ma11, .ref ma12, .int (nI mm), .int (nI pl), .ref ma15, .int (nI wm), .long hh]))] rfl 10 rfl ?_
  refine G_iload_n C dX7_clear_10 rfl 11 rfl ?_
  exact G_iret C hr dX7_clear_11 rfl () trivial rfl rfl

set_option maxHeartbeats 4000000 in
set_option maxRecDepth 100000 in
theorem c_X7_toldOf (l : Launch) (E : gE) (mo ma0 ma1 ma2 ma4 ma5 ma7 ma9 ma10 ma11 ma12 ma15 ns mlen mm pl wm : Nat) (gw : Bool) (hh : Int64) (Nw : Nat → Nat) (Rf : Nat → Nat) (n wh : Nat) (h0 : Nw 0 = n) (hw : wh < 6) : FD l E yX7_toldOf cX7_toldOf 2 (some .int) { frames := 0, cells := 0, slots := 0, locals := 0 } [.ref mo, .int (nI wh)] [(mo, .inr (7, [.ref ma0, .ref ma1, .ref ma2, .int (nI ns), .ref ma4, .ref ma5, .int (nI mlen), .ref ma7, .int (bI gw), .ref ma9, .ref ma10, .ref ma11, .ref ma12, .int (nI mm), .int (nI pl), .ref ma15, .int (nI wm), .long hh])), (ma0, .inl (E.2.1, 15, .inl (aN Nw))), (ma4, .inl (E.2.1, 3, .inl (aN Rf)))] (some (.int (nI (tly wh (Rf 0) (Rf 1) (Rf 2) mlen n ns)))) [(mo, .inr (7, [.ref ma0, .ref ma1, .ref ma2, .int (nI ns), .ref ma4, .ref ma5, .int (nI mlen), .ref ma7, .int (bI gw), .ref ma9, .ref ma10, .ref ma11, .ref ma12, .int (nI mm), .int (nI pl), .ref ma15, .int (nI wm), .long hh])), (ma0, .inl (E.2.1, 15, .inl (aN Nw))), (ma4, .inl (E.2.1, 3, .inl (aN Rf)))] := by
  refine Fn_ofL (own := RX7) (by decide) rfl rfl [(0, .ref mo), (1, .int (nI wh))] rfl ?_
  intro p e s m below meth c A C hr hnm
  rcases (show wh = 0 ∨ wh = 1 ∨ wh = 2 ∨ wh = 3 ∨ wh = 4 ∨ wh = 5 by omega) with rfl | rfl | rfl | rfl | rfl | rfl
  · refine G_iload_n C dX7_toldOf_0 rfl 1 rfl ?_
    refine G_iconst C dX7_toldOf_1 (v := nI 3) rfl 2 rfl ?_
    refine G_icmp_ge_f C dX7_toldOf_2 14 rfl 5 rfl (by decide) ?_
    refine G_aload_n C dX7_toldOf_5 rfl 6 rfl ?_
    refine G_getf C dX7_toldOf_6 wF_X7 wf_X7_19 (f := 4) (by decide) (ci := 7) rfl 0 rfl rfl 9 rfl ?_
    refine G_iload_n C dX7_toldOf_9 rfl 10 rfl ?_
    refine G_ialdN C dX7_toldOf_10 2 rfl rfl (by omega) 11 rfl ?_
    refine G_goto C dX7_toldOf_11 44 rfl ?_
    exact G_iret C hr dX7_toldOf_44 rfl () trivial (by rfl) rfl
  · refine G_iload_n C dX7_toldOf_0 rfl 1 rfl ?_
    refine G_iconst C dX7_toldOf_1 (v := nI 3) rfl 2 rfl ?_
    refine G_icmp_ge_f C dX7_toldOf_2 14 rfl 5 rfl (by decide) ?_
    refine G_aload_n C dX7_toldOf_5 rfl 6 rfl ?_
    refine G_getf C dX7_toldOf_6 wF_X7 wf_X7_19 (f := 4) (by decide) (ci := 7) rfl 0 rfl rfl 9 rfl ?_
    refine G_iload_n C dX7_toldOf_9 rfl 10 rfl ?_
    refine G_ialdN C dX7_toldOf_10 2 rfl rfl (by omega) 11 rfl ?_
    refine G_goto C dX7_toldOf_11 44 rfl ?_
    exact G_iret C hr dX7_toldOf_44 rfl () trivial (by rfl) rfl
  · refine G_iload_n C dX7_toldOf_0 rfl 1 rfl ?_
    refine G_iconst C dX7_toldOf_1 (v := nI 3) rfl 2 rfl ?_
    refine G_icmp_ge_f C dX7_toldOf_2 14 rfl 5 rfl (by decide) ?_
    refine G_aload_n C dX7_toldOf_5 rfl 6 rfl ?_
    refine G_getf C dX7_toldOf_6 wF_X7 wf_X7_19 (f := 4) (by decide) (ci := 7) rfl 0 rfl rfl 9 rfl ?_
    refine G_iload_n C dX7_toldOf_9 rfl 10 rfl ?_
    refine G_ialdN C dX7_toldOf_10 2 rfl rfl (by omega) 11 rfl ?_
    refine G_goto C dX7_toldOf_11 44 rfl ?_
    exact G_iret C hr dX7_toldOf_44 rfl () trivial (by rfl) rfl
  · refine G_iload_n C dX7_toldOf_0 rfl 1 rfl ?_
    refine G_iconst C dX7_toldOf_1 (v := nI 3) rfl 2 rfl ?_
    refine G_icmp_ge_t C dX7_toldOf_2 14 rfl (by decide) ?_
    refine G_iload_n C dX7_toldOf_14 rfl 15 rfl ?_
    refine G_iconst C dX7_toldOf_15 (v := nI 3) rfl 16 rfl ?_
    refine G_icmp_ne_f C dX7_toldOf_16 26 rfl 19 rfl (by decide) ?_
    refine G_aload_n C dX7_toldOf_19 rfl 20 rfl ?_
    refine G_getf C dX7_toldOf_20 wF_X7 wf_X7_136 (f := 6) (by decide) (ci := 7) rfl 0 rfl rfl 23 rfl ?_
    refine G_goto C dX7_toldOf_23 44 rfl ?_
    exact G_iret C hr dX7_toldOf_44 rfl () trivial (by rfl) rfl
  · refine G_iload_n C dX7_toldOf_0 rfl 1 rfl ?_
    refine G_iconst C dX7_toldOf_1 (v := nI 3) rfl 2 rfl ?_
    refine G_icmp_ge_t C dX7_toldOf_2 14 rfl (by decide) ?_
    refine G_iload_n C dX7_toldOf_14 rfl 15 rfl ?_
    refine G_iconst C dX7_toldOf_15 (v := nI 3) rfl 16 rfl ?_
    refine G_icmp_ne_t C dX7_toldOf_16 26 rfl (by decide) ?_
    refine G_iload_n C dX7_toldOf_26 rfl 27 rfl ?_
    refine G_iconst C dX7_toldOf_27 (v := nI 4) rfl 28 rfl ?_
    refine G_icmp_ne_f C dX7_toldOf_28 40 rfl 31 rfl (by decide) ?_
    refine G_aload_n C dX7_toldOf_31 rfl 32 rfl ?_
    refine G_getf C dX7_toldOf_32 wF_X7 wf_X7_7 (f := 0) (by decide) (ci := 7) rfl 0 rfl rfl 35 rfl ?_
    refine G_iconst C dX7_toldOf_35 (v := nI 0) rfl 36 rfl ?_
    refine G_ialdN C dX7_toldOf_36 1 rfl rfl (by omega) 37 rfl ?_
    refine G_top (v' := .int (nI n)) (by rw [h0]) ?_
    refine G_goto C dX7_toldOf_37 44 rfl ?_
    exact G_iret C hr dX7_toldOf_44 rfl () trivial (by rfl) rfl
  · refine G_iload_n C dX7_toldOf_0 rfl 1 rfl ?_
    refine G_iconst C dX7_toldOf_1 (v := nI 3) rfl 2 rfl ?_
    refine G_icmp_ge_t C dX7_toldOf_2 14 rfl (by decide) ?_
    refine G_iload_n C dX7_toldOf_14 rfl 15 rfl ?_
    refine G_iconst C dX7_toldOf_15 (v := nI 3) rfl 16 rfl ?_
    refine G_icmp_ne_t C dX7_toldOf_16 26 rfl (by decide) ?_
    refine G_iload_n C dX7_toldOf_26 rfl 27 rfl ?_
    refine G_iconst C dX7_toldOf_27 (v := nI 4) rfl 28 rfl ?_
    refine G_icmp_ne_t C dX7_toldOf_28 40 rfl (by decide) ?_
    refine G_aload_n C dX7_toldOf_40 rfl 41 rfl ?_
    refine G_getf C dX7_toldOf_41 wF_X7 wf_X7_47 (f := 3) (by decide) (ci := 7) rfl 0 rfl rfl 44 rfl ?_
    exact G_iret C hr dX7_toldOf_44 rfl () trivial (by rfl) rfl

set_option maxHeartbeats 4000000 in
set_option maxRecDepth 100000 in
theorem m_told_bad (l : Launch) (E : gE) (mo ma0 ma1 ma2 ma4 ma5 ma7 ma9 ma10 ma11 ma12 ma15 ns mlen mm pl wm : Nat) (gw : Bool) (hh : Int64) (Rf : Nat → Nat) (va : Int32) (hbad : inb va 6 = false) : FD l E yX7_told cX7_told 2 (some .int) { frames := 1, cells := 0, slots := 0, locals := 22 } [.ref mo, .int va] [(mo, .inr (7, [.ref ma0, .ref ma1, .ref ma2, .int (nI ns), .ref ma4, .ref ma5, .int (nI mlen), .ref ma7, .int (bI gw), .ref ma9, .ref ma10, .ref ma11, .ref ma12, .int (nI mm), .int (nI pl), .ref ma15, .int (nI wm), .long hh])), (ma4, .inl (E.2.1, 3, .inl (aN Rf)))] (some (.int (-2 : Int32))) [(mo, .inr (7, [.ref ma0, .ref ma1, .ref ma2, .int (nI ns), .ref ma4, .ref ma5, .int (nI mlen), .ref ma7, .int (bI gw), .ref ma9, .ref ma10, .ref ma11, .ref ma12, .int (nI mm), .int (nI pl), .ref ma15, .int (nI wm), .long hh])), (ma4, .inl (E.2.1, 3, .inl (aN (va_up Rf 0 (Rf 0 + 1)))))] := by
  refine Fn_ofL (own := RX7) (by decide) rfl rfl [(0, .ref mo), (1, .int va)] rfl ?_
  intro p e s m below meth c A C hr hnm
  refine G_iload_n C dX7_told_0 rfl 1 rfl ?_
  refine G_iconst C dX7_told_1 (v := nI 0) rfl 2 rfl ?_
  refine G_iconst C dX7_told_2 (v := nI 5) rfl 3 rfl ?_
  refine G_cS C dX7_told_3 (c_X7_within l E va (nI 0) (nI 5) ) wm_X7_43 wt_X7_within wn_X7 wc_X7_within rfl rfl ⟨by decide, by decide, rfl⟩ rfl (Nat.le_of_ble_eq_true rfl) [] [0, 1] (wr := [(mo, .inr (7, [.ref ma0, .ref ma1, .ref ma2, .int (nI ns), .ref ma4, .ref ma5, .int (nI mlen), .ref ma7, .int (bI gw), .ref ma9, .ref ma10, .ref ma11, .ref ma12, .int (nI mm), .int (nI pl), .ref ma15, .int (nI wm), .long hh])), (ma4, .inl (E.2.1, 3, .inl (aN Rf)))]) rfl rfl rfl rfl rfl [0, 1] rfl [(mo, .inr (7, [.ref ma0, .ref ma1, .ref ma2, .int (nI ns), .ref ma4, .ref ma5, .int (nI mlen), .ref ma7, .int (bI gw), .ref ma9, .ref ma10, .ref ma11, .ref ma12, .int (nI mm), .int (nI pl), .ref ma15, .int (nI wm), .long hh])), (ma4, .inl (E.2.1, 3, .inl (aN Rf)))] rfl rfl [.int (bI (decide ((nI 0).toInt ≤ va.toInt ∧ va.toInt ≤ (nI 5).toInt)))] rfl 6 rfl ?_
  refine G_if_eq C dX7_told_6 17 rfl 9 rfl (wi_inb va (n := 6) rfl (by omega)) (fun h_1 => ?_) (fun h_1 => ?_)
  · refine G_aload_n C dX7_told_17 rfl 18 rfl ?_
    refine G_bipush C dX7_told_18 (v := (-2 : Int32)) (by decide) 20 rfl ?_
    refine G_cV C dX7_told_20 (c_X7_counts0 l E mo ma0 ma1 ma2 ma4 ma5 ma7 ma9 ma10 ma11 ma12 ma15 ns mlen mm pl wm gw hh Rf ) wm_X7_51 wi_X7_counts wsel_X7_counts wn_X7 wc_X7_counts rfl rfl ⟨by decide, by decide, rfl⟩ rfl (Nat.le_of_ble_eq_true rfl) 7 rfl rfl 0 rfl [0, 1] [] (wr := []) rfl rfl rfl rfl rfl [0, 1] rfl [(mo, .inr (7, [.ref ma0, .ref ma1, .ref ma2, .int (nI ns), .ref ma4, .ref ma5, .int (nI mlen), .ref ma7, .int (bI gw), .ref ma9, .ref ma10, .ref ma11, .ref ma12, .int (nI mm), .int (nI pl), .ref ma15, .int (nI wm), .long hh])), (ma4, .inl (E.2.1, 3, .inl (aN (va_up Rf 0 (Rf 0 + 1)))))] rfl rfl [.int (-2 : Int32)] rfl 23 rfl ?_
    exact G_iret C hr dX7_told_23 rfl () trivial rfl rfl
  · exact absurd hbad (by simp [h_1])

set_option maxHeartbeats 4000000 in
set_option maxRecDepth 100000 in
theorem m_told_ok (l : Launch) (E : gE) (mo ma0 ma1 ma2 ma4 ma5 ma7 ma9 ma10 ma11 ma12 ma15 ns mlen mm pl wm : Nat) (gw : Bool) (hh : Int64) (Nw : Nat → Nat) (Rf : Nat → Nat) (n wh : Nat) (h0 : Nw 0 = n) (hw : wh < 6) : FD l E yX7_told cX7_told 2 (some .int) { frames := 1, cells := 0, slots := 0, locals := 22 } [.ref mo, .int (nI wh)] [(mo, .inr (7, [.ref ma0, .ref ma1, .ref ma2, .int (nI ns), .ref ma4, .ref ma5, .int (nI mlen), .ref ma7, .int (bI gw), .ref ma9, .ref ma10, .ref ma11, .ref ma12, .int (nI mm), .int (nI pl), .ref ma15, .int (nI wm), .long hh])), (ma0, .inl (E.2.1, 15, .inl (aN Nw))), (ma4, .inl (E.2.1, 3, .inl (aN Rf)))] (some (.int (nI (tly wh (Rf 0) (Rf 1) (Rf 2) mlen n ns)))) [(mo, .inr (7, [.ref ma0, .ref ma1, .ref ma2, .int (nI ns), .ref ma4, .ref ma5, .int (nI mlen), .ref ma7, .int (bI gw), .ref ma9, .ref ma10, .ref ma11, .ref ma12, .int (nI mm), .int (nI pl), .ref ma15, .int (nI wm), .long hh])), (ma0, .inl (E.2.1, 15, .inl (aN Nw))), (ma4, .inl (E.2.1, 3, .inl (aN Rf)))] := by
  refine Fn_ofL (own := RX7) (by decide) rfl rfl [(0, .ref mo), (1, .int (nI wh))] rfl ?_
  intro p e s m below meth c A C hr hnm
  refine G_iload_n C dX7_told_0 rfl 1 rfl ?_
  refine G_iconst C dX7_told_1 (v := nI 0) rfl 2 rfl ?_
  refine G_iconst C dX7_told_2 (v := nI 5) rfl 3 rfl ?_
  refine G_cS C dX7_told_3 (c_X7_within l E (nI wh) (nI 0) (nI 5) ) wm_X7_43 wt_X7_within wn_X7 wc_X7_within rfl rfl ⟨by decide, by decide, rfl⟩ rfl (Nat.le_of_ble_eq_true rfl) [] [0, 1, 2] (wr := [(mo, .inr (7, [.ref ma0, .ref ma1, .ref ma2, .int (nI ns), .ref ma4, .ref ma5, .int (nI mlen), .ref ma7, .int (bI gw), .ref ma9, .ref ma10, .ref ma11, .ref ma12, .int (nI mm), .int (nI pl), .ref ma15, .int (nI wm), .long hh])), (ma0, .inl (E.2.1, 15, .inl (aN Nw))), (ma4, .inl (E.2.1, 3, .inl (aN Rf)))]) rfl rfl rfl rfl rfl [0, 1, 2] rfl [(mo, .inr (7, [.ref ma0, .ref ma1, .ref ma2, .int (nI ns), .ref ma4, .ref ma5, .int (nI mlen), .ref ma7, .int (bI gw), .ref ma9, .ref ma10, .ref ma11, .ref ma12, .int (nI mm), .int (nI pl), .ref ma15, .int (nI wm), .long hh])), (ma0, .inl (E.2.1, 15, .inl (aN Nw))), (ma4, .inl (E.2.1, 3, .inl (aN Rf)))] rfl rfl [.int (bI (decide ((nI 0).toInt ≤ (nI wh).toInt ∧ (nI wh).toInt ≤ (nI 5).toInt)))] rfl 6 rfl ?_
  refine G_if_eq_f C dX7_told_6 17 rfl 9 rfl (wi_ok (by omega) (by omega)) ?_
  refine G_aload_n C dX7_told_9 rfl 10 rfl ?_
  refine G_iload_n C dX7_told_10 rfl 11 rfl ?_
  refine G_cV C dX7_told_11 (c_X7_toldOf l E mo ma0 ma1 ma2 ma4 ma5 ma7 ma9 ma10 ma11 ma12 ma15 ns mlen mm pl wm gw hh Nw Rf n wh (by first | assumption | omega) (by first | assumption | omega)) wm_X7_168 wi_X7_toldOf wsel_X7_toldOf wn_X7 wc_X7_toldOf rfl rfl ⟨by decide, by decide, rfl⟩ rfl (Nat.le_of_ble_eq_true rfl) 7 rfl rfl 0 rfl [0, 1, 2] [] (wr := []) rfl rfl rfl rfl rfl [0, 1, 2] rfl [(mo, .inr (7, [.ref ma0, .ref ma1, .ref ma2, .int (nI ns), .ref ma4, .ref ma5, .int (nI mlen), .ref ma7, .int (bI gw), .ref ma9, .ref ma10, .ref ma11, .ref ma12, .int (nI mm), .int (nI pl), .ref ma15, .int (nI wm), .long hh])), (ma0, .inl (E.2.1, 15, .inl (aN Nw))), (ma4, .inl (E.2.1, 3, .inl (aN Rf)))] rfl rfl [.int (nI (tly wh (Rf 0) (Rf 1) (Rf 2) mlen n ns))] rfl 14 rfl ?_
  refine G_goto C dX7_told_14 23 rfl ?_
  exact G_iret C hr dX7_told_23 rfl () trivial rfl rfl

set_option maxHeartbeats 4000000 in
set_option maxRecDepth 100000 in
theorem c_X7_puts (l : Launch) (E : gE) (mo ma0 ma1 ma2 ma4 ma5 ma7 ma9 ma10 ma11 ma12 ma15 ns mlen mm pl wm : Nat) (gw : Bool) (hh : Int64) (Wr : Nat → Nat) (cb : Nat) (hw : wm < 70) : FD l E yX7_puts cX7_puts 2 none { frames := 0, cells := 0, slots := 0, locals := 0 } [.ref mo, .int (nI cb)] [(mo, .inr (7, [.ref ma0, .ref ma1, .ref ma2, .int (nI ns), .ref ma4, .ref ma5, .int (nI mlen), .ref ma7, .int (bI gw), .ref ma9, .ref ma10, .ref ma11, .ref ma12, .int (nI mm), .int (nI pl), .ref ma15, .int (nI wm), .long hh])), (ma15, .inl (E.2.1, 70, .inl (aN Wr)))] none [(mo, .inr (7, [.ref ma0, .ref ma1, .ref ma2, .int (nI ns), .ref ma4, .ref ma5, .int (nI mlen), .ref ma7, .int (bI gw), .ref ma9, .ref ma10, .ref ma11, .ref ma12, .int (nI mm), .int (nI pl), .ref ma15, .int (nI (wm + 1)), .long hh])), (ma15, .inl (E.2.1, 70, .inl (aN (va_up Wr wm cb))))] := by
  refine Fn_ofL (own := RX7) (by decide) rfl rfl [(0, .ref mo), (1, .int (nI cb))] rfl ?_
  intro p e s m below meth c A C hr hnm
  refine G_aload_n C dX7_puts_0 rfl 1 rfl ?_
  refine G_getf C dX7_puts_1 wF_X7 wf_X7_40 (f := 15) (by decide) (ci := 7) rfl 0 rfl rfl 4 rfl ?_
  refine G_aload_n C dX7_puts_4 rfl 5 rfl ?_
  refine G_getf C dX7_puts_5 wF_X7 wf_X7_159 (f := 16) (by decide) (ci := 7) rfl 0 rfl rfl 8 rfl ?_
  refine G_iload_n C dX7_puts_8 rfl 9 rfl ?_
  refine G_iastN C dX7_puts_9 1 rfl rfl (x := cb) (by omega) [(mo, .inr (7, [.ref ma0, .ref ma1, .ref ma2, .int (nI ns), .ref ma4, .ref ma5, .int (nI mlen), .ref ma7, .int (bI gw), .ref ma9, .ref ma10, .ref ma11, .ref ma12, .int (nI mm), .int (nI pl), .ref ma15, .int (nI wm), .long hh])), (ma15, .inl (E.2.1, 70, .inl (aN (va_up Wr wm cb))))] rfl 10 rfl ?_
  refine G_aload_n C dX7_puts_10 rfl 11 rfl ?_
  refine G_dup C dX7_puts_11 rfl 12 rfl ?_
  refine G_getf C dX7_puts_12 wF_X7 wf_X7_159 (f := 16) (by decide) (ci := 7) rfl 0 rfl rfl 15 rfl ?_
  refine G_iconst C dX7_puts_15 (v := nI 1) rfl 16 rfl ?_
  refine G_iadd C dX7_puts_16 (v := nI (wm + 1)) (nI_add _ _) 17 rfl ?_
  refine G_putf C dX7_puts_17 wF_X7 wf_X7_159 (f := 16) (by decide) (ci := 7) rfl tyX7_ok nmX7 rfl 0 rfl rfl rfl (Nat.le_of_ble_eq_true rfl) [(mo, .inr (7, [.ref ma0, .ref ma1, .ref ma2, .int (nI ns), .ref ma4, .ref ma5, .int (nI mlen), .ref ma7, .int (bI gw), .ref ma9, .ref ma10, .ref ma11, .ref ma12, .int (nI mm), .int (nI pl), .ref ma15, .int (nI (wm + 1)), .long hh])), (ma15, .inl (E.2.1, 70, .inl (aN (va_up Wr wm cb))))] rfl 20 rfl ?_
  exact G_vret C hr dX7_puts_20 () trivial rfl rfl

set_option maxHeartbeats 4000000 in
set_option maxRecDepth 100000 in
theorem c_X7_writesOut (l : Launch) (E : gE) (mo ma0 ma1 ma2 ma4 ma5 ma7 ma9 ma10 ma11 ma12 ma15 ns mlen mm pl wm : Nat) (gw : Bool) (hh : Int64) (Nw : Nat → Nat) (Wr : Nat → Nat) (i v : Nat) (hi : i < 14) (hc : Nw (1 + i) = v) (hv : v < 400) (hw : wm + 5 ≤ 70) : FD l E yX7_writesOut cX7_writesOut 2 none { frames := 1, cells := 0, slots := 0, locals := 21 } [.ref mo, .int (nI i)] [(mo, .inr (7, [.ref ma0, .ref ma1, .ref ma2, .int (nI ns), .ref ma4, .ref ma5, .int (nI mlen), .ref ma7, .int (bI gw), .ref ma9, .ref ma10, .ref ma11, .ref ma12, .int (nI mm), .int (nI pl), .ref ma15, .int (nI wm), .long hh])), (ma0, .inl (E.2.1, 15, .inl (aN Nw))), (ma15, .inl (E.2.1, 70, .inl (aN Wr)))] none [(mo, .inr (7, [.ref ma0, .ref ma1, .ref ma2, .int (nI ns), .ref ma4, .ref ma5, .int (nI mlen), .ref ma7, .int (bI gw), .ref ma9, .ref ma10, .ref ma11, .ref ma12, .int (nI mm), .int (nI pl), .ref ma15, .int (nI (wm + ll v)), .long hh])), (ma0, .inl (E.2.1, 15, .inl (aN Nw))), (ma15, .inl (E.2.1, 70, .inl (aN (lput Wr wm (lbs v)))))] := by
  refine Fn_ofL (own := RX7) (by decide) rfl rfl [(0, .ref mo), (1, .int (nI i))] rfl ?_
  intro p e s m below meth c A C hr hnm
  rcases (show v / 100 = 0 ∨ v / 100 = 1 ∨ v / 100 = 2 ∨ v / 100 = 3 by omega) with hs | hs | hs | hs
  · refine G_aload_n C dX7_writesOut_0 rfl 1 rfl ?_
    refine G_iload_n C dX7_writesOut_1 rfl 2 rfl ?_
    refine G_cV C dX7_writesOut_2 (c_X7_sortOf l E mo ma0 ma1 ma2 ma4 ma5 ma7 ma9 ma10 ma11 ma12 ma15 ns mlen mm pl wm gw hh Nw i v (by first | assumption | omega) (by first | assumption | omega) (by first | assumption | omega)) wm_X7_75 wi_X7_sortOf wsel_X7_sortOf wn_X7 wc_X7_sortOf rfl rfl ⟨by decide, by decide, rfl⟩ rfl (Nat.le_of_ble_eq_true rfl) 7 rfl rfl 0 rfl [0, 1] [2] (wr := [(ma15, .inl (E.2.1, 70, .inl (aN Wr)))]) rfl rfl rfl rfl rfl [1, 2, 0] rfl [(mo, .inr (7, [.ref ma0, .ref ma1, .ref ma2, .int (nI ns), .ref ma4, .ref ma5, .int (nI mlen), .ref ma7, .int (bI gw), .ref ma9, .ref ma10, .ref ma11, .ref ma12, .int (nI mm), .int (nI pl), .ref ma15, .int (nI wm), .long hh])), (ma0, .inl (E.2.1, 15, .inl (aN Nw))), (ma15, .inl (E.2.1, 70, .inl (aN Wr)))] rfl rfl [.int (nI (v / 100))] rfl 5 rfl ?_
    refine G_top (v' := .int (nI 0)) (by rw [hs]) ?_
    refine G_iconst C dX7_writesOut_5 (v := nI 3) rfl 6 rfl ?_
    refine G_icmp_ne_t C dX7_writesOut_6 15 rfl (by decide) ?_
    refine G_aload_n C dX7_writesOut_15 rfl 16 rfl ?_
    refine G_bipush C dX7_writesOut_16 (v := nI 97) (by decide) 18 rfl ?_
    refine G_aload_n C dX7_writesOut_18 rfl 19 rfl ?_
    refine G_iload_n C dX7_writesOut_19 rfl 20 rfl ?_
    refine G_cV C dX7_writesOut_20 (c_X7_xOf l E mo ma0 ma1 ma2 ma4 ma5 ma7 ma9 ma10 ma11 ma12 ma15 ns mlen mm pl wm gw hh Nw i v (by first | assumption | omega) (by first | assumption | omega) (by first | assumption | omega)) wm_X7_69 wi_X7_xOf wsel_X7_xOf wn_X7 wc_X7_xOf rfl rfl ⟨by decide, by decide, rfl⟩ rfl (Nat.le_of_ble_eq_true rfl) 7 rfl rfl 0 rfl [0, 1] [2] (wr := [(ma15, .inl (E.2.1, 70, .inl (aN Wr)))]) rfl rfl rfl rfl rfl [1, 2, 0] rfl [(mo, .inr (7, [.ref ma0, .ref ma1, .ref ma2, .int (nI ns), .ref ma4, .ref ma5, .int (nI mlen), .ref ma7, .int (bI gw), .ref ma9, .ref ma10, .ref ma11, .ref ma12, .int (nI mm), .int (nI pl), .ref ma15, .int (nI wm), .long hh])), (ma0, .inl (E.2.1, 15, .inl (aN Nw))), (ma15, .inl (E.2.1, 70, .inl (aN Wr)))] rfl rfl [.int (nI (v / 10 % 10)), .int (nI 97), .ref mo] rfl 23 rfl ?_
    refine G_iadd C dX7_writesOut_23 (v := nI (97 + (v / 10 % 10))) (nI_add _ _) 24 rfl ?_
    refine G_cV C dX7_writesOut_24 (c_X7_puts l E mo ma0 ma1 ma2 ma4 ma5 ma7 ma9 ma10 ma11 ma12 ma15 ns mlen mm pl wm gw hh Wr (97 + (v / 10 % 10)) (by first | assumption | omega)) wm_X7_162 wi_X7_puts wsel_X7_puts wn_X7 wc_X7_puts rfl rfl ⟨by decide, by decide, rfl⟩ rfl (Nat.le_of_ble_eq_true rfl) 7 rfl rfl 0 rfl [0, 2] [1] (wr := [(ma0, .inl (E.2.1, 15, .inl (aN Nw)))]) rfl rfl rfl rfl rfl [1, 0, 2] rfl [(mo, .inr (7, [.ref ma0, .ref ma1, .ref ma2, .int (nI ns), .ref ma4, .ref ma5, .int (nI mlen), .ref ma7, .int (bI gw), .ref ma9, .ref ma10, .ref ma11, .ref ma12, .int (nI mm), .int (nI pl), .ref ma15, .int (nI (wm + 1)), .long hh])), (ma0, .inl (E.2.1, 15, .inl (aN Nw))), (ma15, .inl (E.2.1, 70, .inl (aN (va_up Wr wm (97 + (v / 10 % 10))))))] rfl rfl [] rfl 27 rfl ?_
    refine G_aload_n C dX7_writesOut_27 rfl 28 rfl ?_
    refine G_bipush C dX7_writesOut_28 (v := nI 61) (by decide) 30 rfl ?_
    refine G_cV C dX7_writesOut_30 (c_X7_puts l E mo ma0 ma1 ma2 ma4 ma5 ma7 ma9 ma10 ma11 ma12 ma15 ns mlen mm pl (wm + 1) gw hh (va_up Wr wm (97 + (v / 10 % 10))) 61 (by first | assumption | omega)) wm_X7_162 wi_X7_puts wsel_X7_puts wn_X7 wc_X7_puts rfl rfl ⟨by decide, by decide, rfl⟩ rfl (Nat.le_of_ble_eq_true rfl) 7 rfl rfl 0 rfl [0, 2] [1] (wr := [(ma0, .inl (E.2.1, 15, .inl (aN Nw)))]) rfl rfl rfl rfl rfl [1, 0, 2] rfl [(mo, .inr (7, [.ref ma0, .ref ma1, .ref ma2, .int (nI ns), .ref ma4, .ref ma5, .int (nI mlen), .ref ma7, .int (bI gw), .ref ma9, .ref ma10, .ref ma11, .ref ma12, .int (nI mm), .int (nI pl), .ref ma15, .int (nI ((wm + 1) + 1)), .long hh])), (ma0, .inl (E.2.1, 15, .inl (aN Nw))), (ma15, .inl (E.2.1, 70, .inl (aN (va_up (va_up Wr wm (97 + (v / 10 % 10))) (wm + 1) 61))))] rfl rfl [] rfl 33 rfl ?_
    refine G_aload_n C dX7_writesOut_33 rfl 34 rfl ?_
    refine G_iload_n C dX7_writesOut_34 rfl 35 rfl ?_
    refine G_cV C dX7_writesOut_35 (c_X7_sortOf l E mo ma0 ma1 ma2 ma4 ma5 ma7 ma9 ma10 ma11 ma12 ma15 ns mlen mm pl ((wm + 1) + 1) gw hh Nw i v (by first | assumption | omega) (by first | assumption | omega) (by first | assumption | omega)) wm_X7_75 wi_X7_sortOf wsel_X7_sortOf wn_X7 wc_X7_sortOf rfl rfl ⟨by decide, by decide, rfl⟩ rfl (Nat.le_of_ble_eq_true rfl) 7 rfl rfl 0 rfl [0, 1] [2] (wr := [(ma15, .inl (E.2.1, 70, .inl (aN (va_up (va_up Wr wm (97 + (v / 10 % 10))) (wm + 1) 61))))]) rfl rfl rfl rfl rfl [1, 2, 0] rfl [(mo, .inr (7, [.ref ma0, .ref ma1, .ref ma2, .int (nI ns), .ref ma4, .ref ma5, .int (nI mlen), .ref ma7, .int (bI gw), .ref ma9, .ref ma10, .ref ma11, .ref ma12, .int (nI mm), .int (nI pl), .ref ma15, .int (nI ((wm + 1) + 1)), .long hh])), (ma0, .inl (E.2.1, 15, .inl (aN Nw))), (ma15, .inl (E.2.1, 70, .inl (aN (va_up (va_up Wr wm (97 + (v / 10 % 10))) (wm + 1) 61))))] rfl rfl [.int (nI (v / 100))] rfl 38 rfl ?_
    refine G_top (v' := .int (nI 0)) (by rw [hs]) ?_
    refine G_if_eq_t C dX7_writesOut_38 50 rfl (by decide) ?_
    refine G_aload_n C dX7_writesOut_50 rfl 51 rfl ?_
    refine G_aload_n C dX7_writesOut_51 rfl 52 rfl ?_
    refine G_iload_n C dX7_writesOut_52 rfl 53 rfl ?_
    refine G_cV C dX7_writesOut_53 (c_X7_sortOf l E mo ma0 ma1 ma2 ma4 ma5 ma7 ma9 ma10 ma11 ma12 ma15 ns mlen mm pl ((wm + 1) + 1) gw hh Nw i v (by first | assumption | omega) (by first | assumption | omega) (by first | assumption | omega)) wm_X7_75 wi_X7_sortOf wsel_X7_sortOf wn_X7 wc_X7_sortOf rfl rfl ⟨by decide, by decide, rfl⟩ rfl (Nat.le_of_ble_eq_true rfl) 7 rfl rfl 0 rfl [0, 1] [2] (wr := [(ma15, .inl (E.2.1, 70, .inl (aN (va_up (va_up Wr wm (97 + (v / 10 % 10))) (wm + 1) 61))))]) rfl rfl rfl rfl rfl [1, 2, 0] rfl [(mo, .inr (7, [.ref ma0, .ref ma1, .ref ma2, .int (nI ns), .ref ma4, .ref ma5, .int (nI mlen), .ref ma7, .int (bI gw), .ref ma9, .ref ma10, .ref ma11, .ref ma12, .int (nI mm), .int (nI pl), .ref ma15, .int (nI ((wm + 1) + 1)), .long hh])), (ma0, .inl (E.2.1, 15, .inl (aN Nw))), (ma15, .inl (E.2.1, 70, .inl (aN (va_up (va_up Wr wm (97 + (v / 10 % 10))) (wm + 1) 61))))] rfl rfl [.int (nI (v / 100)), .ref mo] rfl 56 rfl ?_
    refine G_top (v' := .int (nI 0)) (by rw [hs]) ?_
    refine G_if_ne_f C dX7_writesOut_56 64 rfl 59 rfl (by decide) ?_
    refine G_bipush C dX7_writesOut_59 (v := nI 38) (by decide) 61 rfl ?_
    refine G_goto C dX7_writesOut_61 66 rfl ?_
    refine G_cV C dX7_writesOut_66 (c_X7_puts l E mo ma0 ma1 ma2 ma4 ma5 ma7 ma9 ma10 ma11 ma12 ma15 ns mlen mm pl ((wm + 1) + 1) gw hh (va_up (va_up Wr wm (97 + (v / 10 % 10))) (wm + 1) 61) 38 (by first | assumption | omega)) wm_X7_162 wi_X7_puts wsel_X7_puts wn_X7 wc_X7_puts rfl rfl ⟨by decide, by decide, rfl⟩ rfl (Nat.le_of_ble_eq_true rfl) 7 rfl rfl 0 rfl [0, 2] [1] (wr := [(ma0, .inl (E.2.1, 15, .inl (aN Nw)))]) rfl rfl rfl rfl rfl [1, 0, 2] rfl [(mo, .inr (7, [.ref ma0, .ref ma1, .ref ma2, .int (nI ns), .ref ma4, .ref ma5, .int (nI mlen), .ref ma7, .int (bI gw), .ref ma9, .ref ma10, .ref ma11, .ref ma12, .int (nI mm), .int (nI pl), .ref ma15, .int (nI (((wm + 1) + 1) + 1)), .long hh])), (ma0, .inl (E.2.1, 15, .inl (aN Nw))), (ma15, .inl (E.2.1, 70, .inl (aN (va_up (va_up (va_up Wr wm (97 + (v / 10 % 10))) (wm + 1) 61) ((wm + 1) + 1) 38))))] rfl rfl [] rfl 69 rfl ?_
    refine G_aload_n C dX7_writesOut_69 rfl 70 rfl ?_
    refine G_bipush C dX7_writesOut_70 (v := nI 97) (by decide) 72 rfl ?_
    refine G_aload_n C dX7_writesOut_72 rfl 73 rfl ?_
    refine G_iload_n C dX7_writesOut_73 rfl 74 rfl ?_
    refine G_cV C dX7_writesOut_74 (c_X7_yOf l E mo ma0 ma1 ma2 ma4 ma5 ma7 ma9 ma10 ma11 ma12 ma15 ns mlen mm pl (((wm + 1) + 1) + 1) gw hh Nw i v (by first | assumption | omega) (by first | assumption | omega) (by first | assumption | omega)) wm_X7_72 wi_X7_yOf wsel_X7_yOf wn_X7 wc_X7_yOf rfl rfl ⟨by decide, by decide, rfl⟩ rfl (Nat.le_of_ble_eq_true rfl) 7 rfl rfl 0 rfl [0, 1] [2] (wr := [(ma15, .inl (E.2.1, 70, .inl (aN (va_up (va_up (va_up Wr wm (97 + (v / 10 % 10))) (wm + 1) 61) ((wm + 1) + 1) 38))))]) rfl rfl rfl rfl rfl [1, 2, 0] rfl [(mo, .inr (7, [.ref ma0, .ref ma1, .ref ma2, .int (nI ns), .ref ma4, .ref ma5, .int (nI mlen), .ref ma7, .int (bI gw), .ref ma9, .ref ma10, .ref ma11, .ref ma12, .int (nI mm), .int (nI pl), .ref ma15, .int (nI (((wm + 1) + 1) + 1)), .long hh])), (ma0, .inl (E.2.1, 15, .inl (aN Nw))), (ma15, .inl (E.2.1, 70, .inl (aN (va_up (va_up (va_up Wr wm (97 + (v / 10 % 10))) (wm + 1) 61) ((wm + 1) + 1) 38))))] rfl rfl [.int (nI (v % 10)), .int (nI 97), .ref mo] rfl 77 rfl ?_
    refine G_iadd C dX7_writesOut_77 (v := nI (97 + (v % 10))) (nI_add _ _) 78 rfl ?_
    refine G_cV C dX7_writesOut_78 (c_X7_puts l E mo ma0 ma1 ma2 ma4 ma5 ma7 ma9 ma10 ma11 ma12 ma15 ns mlen mm pl (((wm + 1) + 1) + 1) gw hh (va_up (va_up (va_up Wr wm (97 + (v / 10 % 10))) (wm + 1) 61) ((wm + 1) + 1) 38) (97 + (v % 10)) (by first | assumption | omega)) wm_X7_162 wi_X7_puts wsel_X7_puts wn_X7 wc_X7_puts rfl rfl ⟨by decide, by decide, rfl⟩ rfl (Nat.le_of_ble_eq_true rfl) 7 rfl rfl 0 rfl [0, 2] [1] (wr := [(ma0, .inl (E.2.1, 15, .inl (aN Nw)))]) rfl rfl rfl rfl rfl [1, 0, 2] rfl [(mo, .inr (7, [.ref ma0, .ref ma1, .ref ma2, .int (nI ns), .ref ma4, .ref ma5, .int (nI mlen), .ref ma7, .int (bI gw), .ref ma9, .ref ma10, .ref ma11, .ref ma12, .int (nI mm), .int (nI pl), .ref ma15, .int (nI ((((wm + 1) + 1) + 1) + 1)), .long hh])), (ma0, .inl (E.2.1, 15, .inl (aN Nw))), (ma15, .inl (E.2.1, 70, .inl (aN (va_up (va_up (va_up (va_up Wr wm (97 + (v / 10 % 10))) (wm + 1) 61) ((wm + 1) + 1) 38) (((wm + 1) + 1) + 1) (97 + (v % 10))))))] rfl rfl [] rfl 81 rfl ?_
    refine G_aload_n C dX7_writesOut_81 rfl 82 rfl ?_
    refine G_bipush C dX7_writesOut_82 (v := nI 59) (by decide) 84 rfl ?_
    refine G_cV C dX7_writesOut_84 (c_X7_puts l E mo ma0 ma1 ma2 ma4 ma5 ma7 ma9 ma10 ma11 ma12 ma15 ns mlen mm pl ((((wm + 1) + 1) + 1) + 1) gw hh (va_up (va_up (va_up (va_up Wr wm (97 + (v / 10 % 10))) (wm + 1) 61) ((wm + 1) + 1) 38) (((wm + 1) + 1) + 1) (97 + (v % 10))) 59 (by first | assumption | omega)) wm_X7_162 wi_X7_puts wsel_X7_puts wn_X7 wc_X7_puts rfl rfl ⟨by decide, by decide, rfl⟩ rfl (Nat.le_of_ble_eq_true rfl) 7 rfl rfl 0 rfl [0, 2] [1] (wr := [(ma0, .inl (E.2.1, 15, .inl (aN Nw)))]) rfl rfl rfl rfl rfl [1, 0, 2] rfl [(mo, .inr (7, [.ref ma0, .ref ma1, .ref ma2, .int (nI ns), .ref ma4, .ref ma5, .int (nI mlen), .ref ma7, .int (bI gw), .ref ma9, .ref ma10, .ref ma11, .ref ma12, .int (nI mm), .int (nI pl), .ref ma15, .int (nI (((((wm + 1) + 1) + 1) + 1) + 1)), .long hh])), (ma0, .inl (E.2.1, 15, .inl (aN Nw))), (ma15, .inl (E.2.1, 70, .inl (aN (va_up (va_up (va_up (va_up (va_up Wr wm (97 + (v / 10 % 10))) (wm + 1) 61) ((wm + 1) + 1) 38) (((wm + 1) + 1) + 1) (97 + (v % 10))) ((((wm + 1) + 1) + 1) + 1) 59))))] rfl rfl [] rfl 87 rfl ?_
    exact G_vret C hr dX7_writesOut_87 () trivial rfl (by simp only [lbs, ll, hs]; rfl)
  · refine G_aload_n C dX7_writesOut_0 rfl 1 rfl ?_
    refine G_iload_n C dX7_writesOut_1 rfl 2 rfl ?_
    refine G_cV C dX7_writesOut_2 (c_X7_sortOf l E mo ma0 ma1 ma2 ma4 ma5 ma7 ma9 ma10 ma11 ma12 ma15 ns mlen mm pl wm gw hh Nw i v (by first | assumption | omega) (by first | assumption | omega) (by first | assumption | omega)) wm_X7_75 wi_X7_sortOf wsel_X7_sortOf wn_X7 wc_X7_sortOf rfl rfl ⟨by decide, by decide, rfl⟩ rfl (Nat.le_of_ble_eq_true rfl) 7 rfl rfl 0 rfl [0, 1] [2] (wr := [(ma15, .inl (E.2.1, 70, .inl (aN Wr)))]) rfl rfl rfl rfl rfl [1, 2, 0] rfl [(mo, .inr (7, [.ref ma0, .ref ma1, .ref ma2, .int (nI ns), .ref ma4, .ref ma5, .int (nI mlen), .ref ma7, .int (bI gw), .ref ma9, .ref ma10, .ref ma11, .ref ma12, .int (nI mm), .int (nI pl), .ref ma15, .int (nI wm), .long hh])), (ma0, .inl (E.2.1, 15, .inl (aN Nw))), (ma15, .inl (E.2.1, 70, .inl (aN Wr)))] rfl rfl [.int (nI (v / 100))] rfl 5 rfl ?_
    refine G_top (v' := .int (nI 1)) (by rw [hs]) ?_
    refine G_iconst C dX7_writesOut_5 (v := nI 3) rfl 6 rfl ?_
    refine G_icmp_ne_t C dX7_writesOut_6 15 rfl (by decide) ?_
    refine G_aload_n C dX7_writesOut_15 rfl 16 rfl ?_
    refine G_bipush C dX7_writesOut_16 (v := nI 97) (by decide) 18 rfl ?_
    refine G_aload_n C dX7_writesOut_18 rfl 19 rfl ?_
    refine G_iload_n C dX7_writesOut_19 rfl 20 rfl ?_
    refine G_cV C dX7_writesOut_20 (c_X7_xOf l E mo ma0 ma1 ma2 ma4 ma5 ma7 ma9 ma10 ma11 ma12 ma15 ns mlen mm pl wm gw hh Nw i v (by first | assumption | omega) (by first | assumption | omega) (by first | assumption | omega)) wm_X7_69 wi_X7_xOf wsel_X7_xOf wn_X7 wc_X7_xOf rfl rfl ⟨by decide, by decide, rfl⟩ rfl (Nat.le_of_ble_eq_true rfl) 7 rfl rfl 0 rfl [0, 1] [2] (wr := [(ma15, .inl (E.2.1, 70, .inl (aN Wr)))]) rfl rfl rfl rfl rfl [1, 2, 0] rfl [(mo, .inr (7, [.ref ma0, .ref ma1, .ref ma2, .int (nI ns), .ref ma4, .ref ma5, .int (nI mlen), .ref ma7, .int (bI gw), .ref ma9, .ref ma10, .ref ma11, .ref ma12, .int (nI mm), .int (nI pl), .ref ma15, .int (nI wm), .long hh])), (ma0, .inl (E.2.1, 15, .inl (aN Nw))), (ma15, .inl (E.2.1, 70, .inl (aN Wr)))] rfl rfl [.int (nI (v / 10 % 10)), .int (nI 97), .ref mo] rfl 23 rfl ?_
    refine G_iadd C dX7_writesOut_23 (v := nI (97 + (v / 10 % 10))) (nI_add _ _) 24 rfl ?_
    refine G_cV C dX7_writesOut_24 (c_X7_puts l E mo ma0 ma1 ma2 ma4 ma5 ma7 ma9 ma10 ma11 ma12 ma15 ns mlen mm pl wm gw hh Wr (97 + (v / 10 % 10)) (by first | assumption | omega)) wm_X7_162 wi_X7_puts wsel_X7_puts wn_X7 wc_X7_puts rfl rfl ⟨by decide, by decide, rfl⟩ rfl (Nat.le_of_ble_eq_true rfl) 7 rfl rfl 0 rfl [0, 2] [1] (wr := [(ma0, .inl (E.2.1, 15, .inl (aN Nw)))]) rfl rfl rfl rfl rfl [1, 0, 2] rfl [(mo, .inr (7, [.ref ma0, .ref ma1, .ref ma2, .int (nI ns), .ref ma4, .ref ma5, .int (nI mlen), .ref ma7, .int (bI gw), .ref ma9, .ref ma10, .ref ma11, .ref ma12, .int (nI mm), .int (nI pl), .ref ma15, .int (nI (wm + 1)), .long hh])), (ma0, .inl (E.2.1, 15, .inl (aN Nw))), (ma15, .inl (E.2.1, 70, .inl (aN (va_up Wr wm (97 + (v / 10 % 10))))))] rfl rfl [] rfl 27 rfl ?_
    refine G_aload_n C dX7_writesOut_27 rfl 28 rfl ?_
    refine G_bipush C dX7_writesOut_28 (v := nI 61) (by decide) 30 rfl ?_
    refine G_cV C dX7_writesOut_30 (c_X7_puts l E mo ma0 ma1 ma2 ma4 ma5 ma7 ma9 ma10 ma11 ma12 ma15 ns mlen mm pl (wm + 1) gw hh (va_up Wr wm (97 + (v / 10 % 10))) 61 (by first | assumption | omega)) wm_X7_162 wi_X7_puts wsel_X7_puts wn_X7 wc_X7_puts rfl rfl ⟨by decide, by decide, rfl⟩ rfl (Nat.le_of_ble_eq_true rfl) 7 rfl rfl 0 rfl [0, 2] [1] (wr := [(ma0, .inl (E.2.1, 15, .inl (aN Nw)))]) rfl rfl rfl rfl rfl [1, 0, 2] rfl [(mo, .inr (7, [.ref ma0, .ref ma1, .ref ma2, .int (nI ns), .ref ma4, .ref ma5, .int (nI mlen), .ref ma7, .int (bI gw), .ref ma9, .ref ma10, .ref ma11, .ref ma12, .int (nI mm), .int (nI pl), .ref ma15, .int (nI ((wm + 1) + 1)), .long hh])), (ma0, .inl (E.2.1, 15, .inl (aN Nw))), (ma15, .inl (E.2.1, 70, .inl (aN (va_up (va_up Wr wm (97 + (v / 10 % 10))) (wm + 1) 61))))] rfl rfl [] rfl 33 rfl ?_
    refine G_aload_n C dX7_writesOut_33 rfl 34 rfl ?_
    refine G_iload_n C dX7_writesOut_34 rfl 35 rfl ?_
    refine G_cV C dX7_writesOut_35 (c_X7_sortOf l E mo ma0 ma1 ma2 ma4 ma5 ma7 ma9 ma10 ma11 ma12 ma15 ns mlen mm pl ((wm + 1) + 1) gw hh Nw i v (by first | assumption | omega) (by first | assumption | omega) (by first | assumption | omega)) wm_X7_75 wi_X7_sortOf wsel_X7_sortOf wn_X7 wc_X7_sortOf rfl rfl ⟨by decide, by decide, rfl⟩ rfl (Nat.le_of_ble_eq_true rfl) 7 rfl rfl 0 rfl [0, 1] [2] (wr := [(ma15, .inl (E.2.1, 70, .inl (aN (va_up (va_up Wr wm (97 + (v / 10 % 10))) (wm + 1) 61))))]) rfl rfl rfl rfl rfl [1, 2, 0] rfl [(mo, .inr (7, [.ref ma0, .ref ma1, .ref ma2, .int (nI ns), .ref ma4, .ref ma5, .int (nI mlen), .ref ma7, .int (bI gw), .ref ma9, .ref ma10, .ref ma11, .ref ma12, .int (nI mm), .int (nI pl), .ref ma15, .int (nI ((wm + 1) + 1)), .long hh])), (ma0, .inl (E.2.1, 15, .inl (aN Nw))), (ma15, .inl (E.2.1, 70, .inl (aN (va_up (va_up Wr wm (97 + (v / 10 % 10))) (wm + 1) 61))))] rfl rfl [.int (nI (v / 100))] rfl 38 rfl ?_
    refine G_top (v' := .int (nI 1)) (by rw [hs]) ?_
    refine G_if_eq_f C dX7_writesOut_38 50 rfl 41 rfl (by decide) ?_
    refine G_aload_n C dX7_writesOut_41 rfl 42 rfl ?_
    refine G_iload_n C dX7_writesOut_42 rfl 43 rfl ?_
    refine G_cV C dX7_writesOut_43 (c_X7_sortOf l E mo ma0 ma1 ma2 ma4 ma5 ma7 ma9 ma10 ma11 ma12 ma15 ns mlen mm pl ((wm + 1) + 1) gw hh Nw i v (by first | assumption | omega) (by first | assumption | omega) (by first | assumption | omega)) wm_X7_75 wi_X7_sortOf wsel_X7_sortOf wn_X7 wc_X7_sortOf rfl rfl ⟨by decide, by decide, rfl⟩ rfl (Nat.le_of_ble_eq_true rfl) 7 rfl rfl 0 rfl [0, 1] [2] (wr := [(ma15, .inl (E.2.1, 70, .inl (aN (va_up (va_up Wr wm (97 + (v / 10 % 10))) (wm + 1) 61))))]) rfl rfl rfl rfl rfl [1, 2, 0] rfl [(mo, .inr (7, [.ref ma0, .ref ma1, .ref ma2, .int (nI ns), .ref ma4, .ref ma5, .int (nI mlen), .ref ma7, .int (bI gw), .ref ma9, .ref ma10, .ref ma11, .ref ma12, .int (nI mm), .int (nI pl), .ref ma15, .int (nI ((wm + 1) + 1)), .long hh])), (ma0, .inl (E.2.1, 15, .inl (aN Nw))), (ma15, .inl (E.2.1, 70, .inl (aN (va_up (va_up Wr wm (97 + (v / 10 % 10))) (wm + 1) 61))))] rfl rfl [.int (nI (v / 100))] rfl 46 rfl ?_
    refine G_top (v' := .int (nI 1)) (by rw [hs]) ?_
    refine G_iconst C dX7_writesOut_46 (v := nI 2) rfl 47 rfl ?_
    refine G_icmp_ne_t C dX7_writesOut_47 69 rfl (by decide) ?_
    refine G_aload_n C dX7_writesOut_69 rfl 70 rfl ?_
    refine G_bipush C dX7_writesOut_70 (v := nI 97) (by decide) 72 rfl ?_
    refine G_aload_n C dX7_writesOut_72 rfl 73 rfl ?_
    refine G_iload_n C dX7_writesOut_73 rfl 74 rfl ?_
    refine G_cV C dX7_writesOut_74 (c_X7_yOf l E mo ma0 ma1 ma2 ma4 ma5 ma7 ma9 ma10 ma11 ma12 ma15 ns mlen mm pl ((wm + 1) + 1) gw hh Nw i v (by first | assumption | omega) (by first | assumption | omega) (by first | assumption | omega)) wm_X7_72 wi_X7_yOf wsel_X7_yOf wn_X7 wc_X7_yOf rfl rfl ⟨by decide, by decide, rfl⟩ rfl (Nat.le_of_ble_eq_true rfl) 7 rfl rfl 0 rfl [0, 1] [2] (wr := [(ma15, .inl (E.2.1, 70, .inl (aN (va_up (va_up Wr wm (97 + (v / 10 % 10))) (wm + 1) 61))))]) rfl rfl rfl rfl rfl [1, 2, 0] rfl [(mo, .inr (7, [.ref ma0, .ref ma1, .ref ma2, .int (nI ns), .ref ma4, .ref ma5, .int (nI mlen), .ref ma7, .int (bI gw), .ref ma9, .ref ma10, .ref ma11, .ref ma12, .int (nI mm), .int (nI pl), .ref ma15, .int (nI ((wm + 1) + 1)), .long hh])), (ma0, .inl (E.2.1, 15, .inl (aN Nw))), (ma15, .inl (E.2.1, 70, .inl (aN (va_up (va_up Wr wm (97 + (v / 10 % 10))) (wm + 1) 61))))] rfl rfl [.int (nI (v % 10)), .int (nI 97), .ref mo] rfl 77 rfl ?_
    refine G_iadd C dX7_writesOut_77 (v := nI (97 + (v % 10))) (nI_add _ _) 78 rfl ?_
    refine G_cV C dX7_writesOut_78 (c_X7_puts l E mo ma0 ma1 ma2 ma4 ma5 ma7 ma9 ma10 ma11 ma12 ma15 ns mlen mm pl ((wm + 1) + 1) gw hh (va_up (va_up Wr wm (97 + (v / 10 % 10))) (wm + 1) 61) (97 + (v % 10)) (by first | assumption | omega)) wm_X7_162 wi_X7_puts wsel_X7_puts wn_X7 wc_X7_puts rfl rfl ⟨by decide, by decide, rfl⟩ rfl (Nat.le_of_ble_eq_true rfl) 7 rfl rfl 0 rfl [0, 2] [1] (wr := [(ma0, .inl (E.2.1, 15, .inl (aN Nw)))]) rfl rfl rfl rfl rfl [1, 0, 2] rfl [(mo, .inr (7, [.ref ma0, .ref ma1, .ref ma2, .int (nI ns), .ref ma4, .ref ma5, .int (nI mlen), .ref ma7, .int (bI gw), .ref ma9, .ref ma10, .ref ma11, .ref ma12, .int (nI mm), .int (nI pl), .ref ma15, .int (nI (((wm + 1) + 1) + 1)), .long hh])), (ma0, .inl (E.2.1, 15, .inl (aN Nw))), (ma15, .inl (E.2.1, 70, .inl (aN (va_up (va_up (va_up Wr wm (97 + (v / 10 % 10))) (wm + 1) 61) ((wm + 1) + 1) (97 + (v % 10))))))] rfl rfl [] rfl 81 rfl ?_
    refine G_aload_n C dX7_writesOut_81 rfl 82 rfl ?_
    refine G_bipush C dX7_writesOut_82 (v := nI 59) (by decide) 84 rfl ?_
    refine G_cV C dX7_writesOut_84 (c_X7_puts l E mo ma0 ma1 ma2 ma4 ma5 ma7 ma9 ma10 ma11 ma12 ma15 ns mlen mm pl (((wm + 1) + 1) + 1) gw hh (va_up (va_up (va_up Wr wm (97 + (v / 10 % 10))) (wm + 1) 61) ((wm + 1) + 1) (97 + (v % 10))) 59 (by first | assumption | omega)) wm_X7_162 wi_X7_puts wsel_X7_puts wn_X7 wc_X7_puts rfl rfl ⟨by decide, by decide, rfl⟩ rfl (Nat.le_of_ble_eq_true rfl) 7 rfl rfl 0 rfl [0, 2] [1] (wr := [(ma0, .inl (E.2.1, 15, .inl (aN Nw)))]) rfl rfl rfl rfl rfl [1, 0, 2] rfl [(mo, .inr (7, [.ref ma0, .ref ma1, .ref ma2, .int (nI ns), .ref ma4, .ref ma5, .int (nI mlen), .ref ma7, .int (bI gw), .ref ma9, .ref ma10, .ref ma11, .ref ma12, .int (nI mm), .int (nI pl), .ref ma15, .int (nI ((((wm + 1) + 1) + 1) + 1)), .long hh])), (ma0, .inl (E.2.1, 15, .inl (aN Nw))), (ma15, .inl (E.2.1, 70, .inl (aN (va_up (va_up (va_up (va_up Wr wm (97 + (v / 10 % 10))) (wm + 1) 61) ((wm + 1) + 1) (97 + (v % 10))) (((wm + 1) + 1) + 1) 59))))] rfl rfl [] rfl 87 rfl ?_
    exact G_vret C hr dX7_writesOut_87 () trivial rfl (by simp only [lbs, ll, hs]; rfl)
  · refine G_aload_n C dX7_writesOut_0 rfl 1 rfl ?_
    refine G_iload_n C dX7_writesOut_1 rfl 2 rfl ?_
    refine G_cV C dX7_writesOut_2 (c_X7_sortOf l E mo ma0 ma1 ma2 ma4 ma5 ma7 ma9 ma10 ma11 ma12 ma15 ns mlen mm pl wm gw hh Nw i v (by first | assumption | omega) (by first | assumption | omega) (by first | assumption | omega)) wm_X7_75 wi_X7_sortOf wsel_X7_sortOf wn_X7 wc_X7_sortOf rfl rfl ⟨by decide, by decide, rfl⟩ rfl (Nat.le_of_ble_eq_true rfl) 7 rfl rfl 0 rfl [0, 1] [2] (wr := [(ma15, .inl (E.2.1, 70, .inl (aN Wr)))]) rfl rfl rfl rfl rfl [1, 2, 0] rfl [(mo, .inr (7, [.ref ma0, .ref ma1, .ref ma2, .int (nI ns), .ref ma4, .ref ma5, .int (nI mlen), .ref ma7, .int (bI gw), .ref ma9, .ref ma10, .ref ma11, .ref ma12, .int (nI mm), .int (nI pl), .ref ma15, .int (nI wm), .long hh])), (ma0, .inl (E.2.1, 15, .inl (aN Nw))), (ma15, .inl (E.2.1, 70, .inl (aN Wr)))] rfl rfl [.int (nI (v / 100))] rfl 5 rfl ?_
    refine G_top (v' := .int (nI 2)) (by rw [hs]) ?_
    refine G_iconst C dX7_writesOut_5 (v := nI 3) rfl 6 rfl ?_
    refine G_icmp_ne_t C dX7_writesOut_6 15 rfl (by decide) ?_
    refine G_aload_n C dX7_writesOut_15 rfl 16 rfl ?_
    refine G_bipush C dX7_writesOut_16 (v := nI 97) (by decide) 18 rfl ?_
    refine G_aload_n C dX7_writesOut_18 rfl 19 rfl ?_
    refine G_iload_n C dX7_writesOut_19 rfl 20 rfl ?_
    refine G_cV C dX7_writesOut_20 (c_X7_xOf l E mo ma0 ma1 ma2 ma4 ma5 ma7 ma9 ma10 ma11 ma12 ma15 ns mlen mm pl wm gw hh Nw i v (by first | assumption | omega) (by first | assumption | omega) (by first | assumption | omega)) wm_X7_69 wi_X7_xOf wsel_X7_xOf wn_X7 wc_X7_xOf rfl rfl ⟨by decide, by decide, rfl⟩ rfl (Nat.le_of_ble_eq_true rfl) 7 rfl rfl 0 rfl [0, 1] [2] (wr := [(ma15, .inl (E.2.1, 70, .inl (aN Wr)))]) rfl rfl rfl rfl rfl [1, 2, 0] rfl [(mo, .inr (7, [.ref ma0, .ref ma1, .ref ma2, .int (nI ns), .ref ma4, .ref ma5, .int (nI mlen), .ref ma7, .int (bI gw), .ref ma9, .ref ma10, .ref ma11, .ref ma12, .int (nI mm), .int (nI pl), .ref ma15, .int (nI wm), .long hh])), (ma0, .inl (E.2.1, 15, .inl (aN Nw))), (ma15, .inl (E.2.1, 70, .inl (aN Wr)))] rfl rfl [.int (nI (v / 10 % 10)), .int (nI 97), .ref mo] rfl 23 rfl ?_
    refine G_iadd C dX7_writesOut_23 (v := nI (97 + (v / 10 % 10))) (nI_add _ _) 24 rfl ?_
    refine G_cV C dX7_writesOut_24 (c_X7_puts l E mo ma0 ma1 ma2 ma4 ma5 ma7 ma9 ma10 ma11 ma12 ma15 ns mlen mm pl wm gw hh Wr (97 + (v / 10 % 10)) (by first | assumption | omega)) wm_X7_162 wi_X7_puts wsel_X7_puts wn_X7 wc_X7_puts rfl rfl ⟨by decide, by decide, rfl⟩ rfl (Nat.le_of_ble_eq_true rfl) 7 rfl rfl 0 rfl [0, 2] [1] (wr := [(ma0, .inl (E.2.1, 15, .inl (aN Nw)))]) rfl rfl rfl rfl rfl [1, 0, 2] rfl [(mo, .inr (7, [.ref ma0, .ref ma1, .ref ma2, .int (nI ns), .ref ma4, .ref ma5, .int (nI mlen), .ref ma7, .int (bI gw), .ref ma9, .ref ma10, .ref ma11, .ref ma12, .int (nI mm), .int (nI pl), .ref ma15, .int (nI (wm + 1)), .long hh])), (ma0, .inl (E.2.1, 15, .inl (aN Nw))), (ma15, .inl (E.2.1, 70, .inl (aN (va_up Wr wm (97 + (v / 10 % 10))))))] rfl rfl [] rfl 27 rfl ?_
    refine G_aload_n C dX7_writesOut_27 rfl 28 rfl ?_
    refine G_bipush C dX7_writesOut_28 (v := nI 61) (by decide) 30 rfl ?_
    refine G_cV C dX7_writesOut_30 (c_X7_puts l E mo ma0 ma1 ma2 ma4 ma5 ma7 ma9 ma10 ma11 ma12 ma15 ns mlen mm pl (wm + 1) gw hh (va_up Wr wm (97 + (v / 10 % 10))) 61 (by first | assumption | omega)) wm_X7_162 wi_X7_puts wsel_X7_puts wn_X7 wc_X7_puts rfl rfl ⟨by decide, by decide, rfl⟩ rfl (Nat.le_of_ble_eq_true rfl) 7 rfl rfl 0 rfl [0, 2] [1] (wr := [(ma0, .inl (E.2.1, 15, .inl (aN Nw)))]) rfl rfl rfl rfl rfl [1, 0, 2] rfl [(mo, .inr (7, [.ref ma0, .ref ma1, .ref ma2, .int (nI ns), .ref ma4, .ref ma5, .int (nI mlen), .ref ma7, .int (bI gw), .ref ma9, .ref ma10, .ref ma11, .ref ma12, .int (nI mm), .int (nI pl), .ref ma15, .int (nI ((wm + 1) + 1)), .long hh])), (ma0, .inl (E.2.1, 15, .inl (aN Nw))), (ma15, .inl (E.2.1, 70, .inl (aN (va_up (va_up Wr wm (97 + (v / 10 % 10))) (wm + 1) 61))))] rfl rfl [] rfl 33 rfl ?_
    refine G_aload_n C dX7_writesOut_33 rfl 34 rfl ?_
    refine G_iload_n C dX7_writesOut_34 rfl 35 rfl ?_
    refine G_cV C dX7_writesOut_35 (c_X7_sortOf l E mo ma0 ma1 ma2 ma4 ma5 ma7 ma9 ma10 ma11 ma12 ma15 ns mlen mm pl ((wm + 1) + 1) gw hh Nw i v (by first | assumption | omega) (by first | assumption | omega) (by first | assumption | omega)) wm_X7_75 wi_X7_sortOf wsel_X7_sortOf wn_X7 wc_X7_sortOf rfl rfl ⟨by decide, by decide, rfl⟩ rfl (Nat.le_of_ble_eq_true rfl) 7 rfl rfl 0 rfl [0, 1] [2] (wr := [(ma15, .inl (E.2.1, 70, .inl (aN (va_up (va_up Wr wm (97 + (v / 10 % 10))) (wm + 1) 61))))]) rfl rfl rfl rfl rfl [1, 2, 0] rfl [(mo, .inr (7, [.ref ma0, .ref ma1, .ref ma2, .int (nI ns), .ref ma4, .ref ma5, .int (nI mlen), .ref ma7, .int (bI gw), .ref ma9, .ref ma10, .ref ma11, .ref ma12, .int (nI mm), .int (nI pl), .ref ma15, .int (nI ((wm + 1) + 1)), .long hh])), (ma0, .inl (E.2.1, 15, .inl (aN Nw))), (ma15, .inl (E.2.1, 70, .inl (aN (va_up (va_up Wr wm (97 + (v / 10 % 10))) (wm + 1) 61))))] rfl rfl [.int (nI (v / 100))] rfl 38 rfl ?_
    refine G_top (v' := .int (nI 2)) (by rw [hs]) ?_
    refine G_if_eq_f C dX7_writesOut_38 50 rfl 41 rfl (by decide) ?_
    refine G_aload_n C dX7_writesOut_41 rfl 42 rfl ?_
    refine G_iload_n C dX7_writesOut_42 rfl 43 rfl ?_
    refine G_cV C dX7_writesOut_43 (c_X7_sortOf l E mo ma0 ma1 ma2 ma4 ma5 ma7 ma9 ma10 ma11 ma12 ma15 ns mlen mm pl ((wm + 1) + 1) gw hh Nw i v (by first | assumption | omega) (by first | assumption | omega) (by first | assumption | omega)) wm_X7_75 wi_X7_sortOf wsel_X7_sortOf wn_X7 wc_X7_sortOf rfl rfl ⟨by decide, by decide, rfl⟩ rfl (Nat.le_of_ble_eq_true rfl) 7 rfl rfl 0 rfl [0, 1] [2] (wr := [(ma15, .inl (E.2.1, 70, .inl (aN (va_up (va_up Wr wm (97 + (v / 10 % 10))) (wm + 1) 61))))]) rfl rfl rfl rfl rfl [1, 2, 0] rfl [(mo, .inr (7, [.ref ma0, .ref ma1, .ref ma2, .int (nI ns), .ref ma4, .ref ma5, .int (nI mlen), .ref ma7, .int (bI gw), .ref ma9, .ref ma10, .ref ma11, .ref ma12, .int (nI mm), .int (nI pl), .ref ma15, .int (nI ((wm + 1) + 1)), .long hh])), (ma0, .inl (E.2.1, 15, .inl (aN Nw))), (ma15, .inl (E.2.1, 70, .inl (aN (va_up (va_up Wr wm (97 + (v / 10 % 10))) (wm + 1) 61))))] rfl rfl [.int (nI (v / 100))] rfl 46 rfl ?_
    refine G_top (v' := .int (nI 2)) (by rw [hs]) ?_
    refine G_iconst C dX7_writesOut_46 (v := nI 2) rfl 47 rfl ?_
    refine G_icmp_ne_f C dX7_writesOut_47 69 rfl 50 rfl (by decide) ?_
    refine G_aload_n C dX7_writesOut_50 rfl 51 rfl ?_
    refine G_aload_n C dX7_writesOut_51 rfl 52 rfl ?_
    refine G_iload_n C dX7_writesOut_52 rfl 53 rfl ?_
    refine G_cV C dX7_writesOut_53 (c_X7_sortOf l E mo ma0 ma1 ma2 ma4 ma5 ma7 ma9 ma10 ma11 ma12 ma15 ns mlen mm pl ((wm + 1) + 1) gw hh Nw i v (by first | assumption | omega) (by first | assumption | omega) (by first | assumption | omega)) wm_X7_75 wi_X7_sortOf wsel_X7_sortOf wn_X7 wc_X7_sortOf rfl rfl ⟨by decide, by decide, rfl⟩ rfl (Nat.le_of_ble_eq_true rfl) 7 rfl rfl 0 rfl [0, 1] [2] (wr := [(ma15, .inl (E.2.1, 70, .inl (aN (va_up (va_up Wr wm (97 + (v / 10 % 10))) (wm + 1) 61))))]) rfl rfl rfl rfl rfl [1, 2, 0] rfl [(mo, .inr (7, [.ref ma0, .ref ma1, .ref ma2, .int (nI ns), .ref ma4, .ref ma5, .int (nI mlen), .ref ma7, .int (bI gw), .ref ma9, .ref ma10, .ref ma11, .ref ma12, .int (nI mm), .int (nI pl), .ref ma15, .int (nI ((wm + 1) + 1)), .long hh])), (ma0, .inl (E.2.1, 15, .inl (aN Nw))), (ma15, .inl (E.2.1, 70, .inl (aN (va_up (va_up Wr wm (97 + (v / 10 % 10))) (wm + 1) 61))))] rfl rfl [.int (nI (v / 100)), .ref mo] rfl 56 rfl ?_
    refine G_top (v' := .int (nI 2)) (by rw [hs]) ?_
    refine G_if_ne_t C dX7_writesOut_56 64 rfl (by decide) ?_
    refine G_bipush C dX7_writesOut_64 (v := nI 42) (by decide) 66 rfl ?_
    refine G_cV C dX7_writesOut_66 (c_X7_puts l E mo ma0 ma1 ma2 ma4 ma5 ma7 ma9 ma10 ma11 ma12 ma15 ns mlen mm pl ((wm + 1) + 1) gw hh (va_up (va_up Wr wm (97 + (v / 10 % 10))) (wm + 1) 61) 42 (by first | assumption | omega)) wm_X7_162 wi_X7_puts wsel_X7_puts wn_X7 wc_X7_puts rfl rfl ⟨by decide, by decide, rfl⟩ rfl (Nat.le_of_ble_eq_true rfl) 7 rfl rfl 0 rfl [0, 2] [1] (wr := [(ma0, .inl (E.2.1, 15, .inl (aN Nw)))]) rfl rfl rfl rfl rfl [1, 0, 2] rfl [(mo, .inr (7, [.ref ma0, .ref ma1, .ref ma2, .int (nI ns), .ref ma4, .ref ma5, .int (nI mlen), .ref ma7, .int (bI gw), .ref ma9, .ref ma10, .ref ma11, .ref ma12, .int (nI mm), .int (nI pl), .ref ma15, .int (nI (((wm + 1) + 1) + 1)), .long hh])), (ma0, .inl (E.2.1, 15, .inl (aN Nw))), (ma15, .inl (E.2.1, 70, .inl (aN (va_up (va_up (va_up Wr wm (97 + (v / 10 % 10))) (wm + 1) 61) ((wm + 1) + 1) 42))))] rfl rfl [] rfl 69 rfl ?_
    refine G_aload_n C dX7_writesOut_69 rfl 70 rfl ?_
    refine G_bipush C dX7_writesOut_70 (v := nI 97) (by decide) 72 rfl ?_
    refine G_aload_n C dX7_writesOut_72 rfl 73 rfl ?_
    refine G_iload_n C dX7_writesOut_73 rfl 74 rfl ?_
    refine G_cV C dX7_writesOut_74 (c_X7_yOf l E mo ma0 ma1 ma2 ma4 ma5 ma7 ma9 ma10 ma11 ma12 ma15 ns mlen mm pl (((wm + 1) + 1) + 1) gw hh Nw i v (by first | assumption | omega) (by first | assumption | omega) (by first | assumption | omega)) wm_X7_72 wi_X7_yOf wsel_X7_yOf wn_X7 wc_X7_yOf rfl rfl ⟨by decide, by decide, rfl⟩ rfl (Nat.le_of_ble_eq_true rfl) 7 rfl rfl 0 rfl [0, 1] [2] (wr := [(ma15, .inl (E.2.1, 70, .inl (aN (va_up (va_up (va_up Wr wm (97 + (v / 10 % 10))) (wm + 1) 61) ((wm + 1) + 1) 42))))]) rfl rfl rfl rfl rfl [1, 2, 0] rfl [(mo, .inr (7, [.ref ma0, .ref ma1, .ref ma2, .int (nI ns), .ref ma4, .ref ma5, .int (nI mlen), .ref ma7, .int (bI gw), .ref ma9, .ref ma10, .ref ma11, .ref ma12, .int (nI mm), .int (nI pl), .ref ma15, .int (nI (((wm + 1) + 1) + 1)), .long hh])), (ma0, .inl (E.2.1, 15, .inl (aN Nw))), (ma15, .inl (E.2.1, 70, .inl (aN (va_up (va_up (va_up Wr wm (97 + (v / 10 % 10))) (wm + 1) 61) ((wm + 1) + 1) 42))))] rfl rfl [.int (nI (v % 10)), .int (nI 97), .ref mo] rfl 77 rfl ?_
    refine G_iadd C dX7_writesOut_77 (v := nI (97 + (v % 10))) (nI_add _ _) 78 rfl ?_
    refine G_cV C dX7_writesOut_78 (c_X7_puts l E mo ma0 ma1 ma2 ma4 ma5 ma7 ma9 ma10 ma11 ma12 ma15 ns mlen mm pl (((wm + 1) + 1) + 1) gw hh (va_up (va_up (va_up Wr wm (97 + (v / 10 % 10))) (wm + 1) 61) ((wm + 1) + 1) 42) (97 + (v % 10)) (by first | assumption | omega)) wm_X7_162 wi_X7_puts wsel_X7_puts wn_X7 wc_X7_puts rfl rfl ⟨by decide, by decide, rfl⟩ rfl (Nat.le_of_ble_eq_true rfl) 7 rfl rfl 0 rfl [0, 2] [1] (wr := [(ma0, .inl (E.2.1, 15, .inl (aN Nw)))]) rfl rfl rfl rfl rfl [1, 0, 2] rfl [(mo, .inr (7, [.ref ma0, .ref ma1, .ref ma2, .int (nI ns), .ref ma4, .ref ma5, .int (nI mlen), .ref ma7, .int (bI gw), .ref ma9, .ref ma10, .ref ma11, .ref ma12, .int (nI mm), .int (nI pl), .ref ma15, .int (nI ((((wm + 1) + 1) + 1) + 1)), .long hh])), (ma0, .inl (E.2.1, 15, .inl (aN Nw))), (ma15, .inl (E.2.1, 70, .inl (aN (va_up (va_up (va_up (va_up Wr wm (97 + (v / 10 % 10))) (wm + 1) 61) ((wm + 1) + 1) 42) (((wm + 1) + 1) + 1) (97 + (v % 10))))))] rfl rfl [] rfl 81 rfl ?_
    refine G_aload_n C dX7_writesOut_81 rfl 82 rfl ?_
    refine G_bipush C dX7_writesOut_82 (v := nI 59) (by decide) 84 rfl ?_
    refine G_cV C dX7_writesOut_84 (c_X7_puts l E mo ma0 ma1 ma2 ma4 ma5 ma7 ma9 ma10 ma11 ma12 ma15 ns mlen mm pl ((((wm + 1) + 1) + 1) + 1) gw hh (va_up (va_up (va_up (va_up Wr wm (97 + (v / 10 % 10))) (wm + 1) 61) ((wm + 1) + 1) 42) (((wm + 1) + 1) + 1) (97 + (v % 10))) 59 (by first | assumption | omega)) wm_X7_162 wi_X7_puts wsel_X7_puts wn_X7 wc_X7_puts rfl rfl ⟨by decide, by decide, rfl⟩ rfl (Nat.le_of_ble_eq_true rfl) 7 rfl rfl 0 rfl [0, 2] [1] (wr := [(ma0, .inl (E.2.1, 15, .inl (aN Nw)))]) rfl rfl rfl rfl rfl [1, 0, 2] rfl [(mo, .inr (7, [.ref ma0, .ref ma1, .ref ma2, .int (nI ns), .ref ma4, .ref ma5, .int (nI mlen), .ref ma7, .int (bI gw), .ref ma9, .ref ma10, .ref ma11, .ref ma12, .int (nI mm), .int (nI pl), .ref ma15, .int (nI (((((wm + 1) + 1) + 1) + 1) + 1)), .long hh])), (ma0, .inl (E.2.1, 15, .inl (aN Nw))), (ma15, .inl (E.2.1, 70, .inl (aN (va_up (va_up (va_up (va_up (va_up Wr wm (97 + (v / 10 % 10))) (wm + 1) 61) ((wm + 1) + 1) 42) (((wm + 1) + 1) + 1) (97 + (v % 10))) ((((wm + 1) + 1) + 1) + 1) 59))))] rfl rfl [] rfl 87 rfl ?_
    exact G_vret C hr dX7_writesOut_87 () trivial rfl (by simp only [lbs, ll, hs]; rfl)
  · refine G_aload_n C dX7_writesOut_0 rfl 1 rfl ?_
    refine G_iload_n C dX7_writesOut_1 rfl 2 rfl ?_
    refine G_cV C dX7_writesOut_2 (c_X7_sortOf l E mo ma0 ma1 ma2 ma4 ma5 ma7 ma9 ma10 ma11 ma12 ma15 ns mlen mm pl wm gw hh Nw i v (by first | assumption | omega) (by first | assumption | omega) (by first | assumption | omega)) wm_X7_75 wi_X7_sortOf wsel_X7_sortOf wn_X7 wc_X7_sortOf rfl rfl ⟨by decide, by decide, rfl⟩ rfl (Nat.le_of_ble_eq_true rfl) 7 rfl rfl 0 rfl [0, 1] [2] (wr := [(ma15, .inl (E.2.1, 70, .inl (aN Wr)))]) rfl rfl rfl rfl rfl [1, 2, 0] rfl [(mo, .inr (7, [.ref ma0, .ref ma1, .ref ma2, .int (nI ns), .ref ma4, .ref ma5, .int (nI mlen), .ref ma7, .int (bI gw), .ref ma9, .ref ma10, .ref ma11, .ref ma12, .int (nI mm), .int (nI pl), .ref ma15, .int (nI wm), .long hh])), (ma0, .inl (E.2.1, 15, .inl (aN Nw))), (ma15, .inl (E.2.1, 70, .inl (aN Wr)))] rfl rfl [.int (nI (v / 100))] rfl 5 rfl ?_
    refine G_top (v' := .int (nI 3)) (by rw [hs]) ?_
    refine G_iconst C dX7_writesOut_5 (v := nI 3) rfl 6 rfl ?_
    refine G_icmp_ne_f C dX7_writesOut_6 15 rfl 9 rfl (by decide) ?_
    refine G_aload_n C dX7_writesOut_9 rfl 10 rfl ?_
    refine G_bipush C dX7_writesOut_10 (v := nI 42) (by decide) 12 rfl ?_
    refine G_cV C dX7_writesOut_12 (c_X7_puts l E mo ma0 ma1 ma2 ma4 ma5 ma7 ma9 ma10 ma11 ma12 ma15 ns mlen mm pl wm gw hh Wr 42 (by first | assumption | omega)) wm_X7_162 wi_X7_puts wsel_X7_puts wn_X7 wc_X7_puts rfl rfl ⟨by decide, by decide, rfl⟩ rfl (Nat.le_of_ble_eq_true rfl) 7 rfl rfl 0 rfl [0, 2] [1] (wr := [(ma0, .inl (E.2.1, 15, .inl (aN Nw)))]) rfl rfl rfl rfl rfl [1, 0, 2] rfl [(mo, .inr (7, [.ref ma0, .ref ma1, .ref ma2, .int (nI ns), .ref ma4, .ref ma5, .int (nI mlen), .ref ma7, .int (bI gw), .ref ma9, .ref ma10, .ref ma11, .ref ma12, .int (nI mm), .int (nI pl), .ref ma15, .int (nI (wm + 1)), .long hh])), (ma0, .inl (E.2.1, 15, .inl (aN Nw))), (ma15, .inl (E.2.1, 70, .inl (aN (va_up Wr wm 42))))] rfl rfl [] rfl 15 rfl ?_
    refine G_aload_n C dX7_writesOut_15 rfl 16 rfl ?_
    refine G_bipush C dX7_writesOut_16 (v := nI 97) (by decide) 18 rfl ?_
    refine G_aload_n C dX7_writesOut_18 rfl 19 rfl ?_
    refine G_iload_n C dX7_writesOut_19 rfl 20 rfl ?_
    refine G_cV C dX7_writesOut_20 (c_X7_xOf l E mo ma0 ma1 ma2 ma4 ma5 ma7 ma9 ma10 ma11 ma12 ma15 ns mlen mm pl (wm + 1) gw hh Nw i v (by first | assumption | omega) (by first | assumption | omega) (by first | assumption | omega)) wm_X7_69 wi_X7_xOf wsel_X7_xOf wn_X7 wc_X7_xOf rfl rfl ⟨by decide, by decide, rfl⟩ rfl (Nat.le_of_ble_eq_true rfl) 7 rfl rfl 0 rfl [0, 1] [2] (wr := [(ma15, .inl (E.2.1, 70, .inl (aN (va_up Wr wm 42))))]) rfl rfl rfl rfl rfl [1, 2, 0] rfl [(mo, .inr (7, [.ref ma0, .ref ma1, .ref ma2, .int (nI ns), .ref ma4, .ref ma5, .int (nI mlen), .ref ma7, .int (bI gw), .ref ma9, .ref ma10, .ref ma11, .ref ma12, .int (nI mm), .int (nI pl), .ref ma15, .int (nI (wm + 1)), .long hh])), (ma0, .inl (E.2.1, 15, .inl (aN Nw))), (ma15, .inl (E.2.1, 70, .inl (aN (va_up Wr wm 42))))] rfl rfl [.int (nI (v / 10 % 10)), .int (nI 97), .ref mo] rfl 23 rfl ?_
    refine G_iadd C dX7_writesOut_23 (v := nI (97 + (v / 10 % 10))) (nI_add _ _) 24 rfl ?_
    refine G_cV C dX7_writesOut_24 (c_X7_puts l E mo ma0 ma1 ma2 ma4 ma5 ma7 ma9 ma10 ma11 ma12 ma15 ns mlen mm pl (wm + 1) gw hh (va_up Wr wm 42) (97 + (v / 10 % 10)) (by first | assumption | omega)) wm_X7_162 wi_X7_puts wsel_X7_puts wn_X7 wc_X7_puts rfl rfl ⟨by decide, by decide, rfl⟩ rfl (Nat.le_of_ble_eq_true rfl) 7 rfl rfl 0 rfl [0, 2] [1] (wr := [(ma0, .inl (E.2.1, 15, .inl (aN Nw)))]) rfl rfl rfl rfl rfl [1, 0, 2] rfl [(mo, .inr (7, [.ref ma0, .ref ma1, .ref ma2, .int (nI ns), .ref ma4, .ref ma5, .int (nI mlen), .ref ma7, .int (bI gw), .ref ma9, .ref ma10, .ref ma11, .ref ma12, .int (nI mm), .int (nI pl), .ref ma15, .int (nI ((wm + 1) + 1)), .long hh])), (ma0, .inl (E.2.1, 15, .inl (aN Nw))), (ma15, .inl (E.2.1, 70, .inl (aN (va_up (va_up Wr wm 42) (wm + 1) (97 + (v / 10 % 10))))))] rfl rfl [] rfl 27 rfl ?_
    refine G_aload_n C dX7_writesOut_27 rfl 28 rfl ?_
    refine G_bipush C dX7_writesOut_28 (v := nI 61) (by decide) 30 rfl ?_
    refine G_cV C dX7_writesOut_30 (c_X7_puts l E mo ma0 ma1 ma2 ma4 ma5 ma7 ma9 ma10 ma11 ma12 ma15 ns mlen mm pl ((wm + 1) + 1) gw hh (va_up (va_up Wr wm 42) (wm + 1) (97 + (v / 10 % 10))) 61 (by first | assumption | omega)) wm_X7_162 wi_X7_puts wsel_X7_puts wn_X7 wc_X7_puts rfl rfl ⟨by decide, by decide, rfl⟩ rfl (Nat.le_of_ble_eq_true rfl) 7 rfl rfl 0 rfl [0, 2] [1] (wr := [(ma0, .inl (E.2.1, 15, .inl (aN Nw)))]) rfl rfl rfl rfl rfl [1, 0, 2] rfl [(mo, .inr (7, [.ref ma0, .ref ma1, .ref ma2, .int (nI ns), .ref ma4, .ref ma5, .int (nI mlen), .ref ma7, .int (bI gw), .ref ma9, .ref ma10, .ref ma11, .ref ma12, .int (nI mm), .int (nI pl), .ref ma15, .int (nI (((wm + 1) + 1) + 1)), .long hh])), (ma0, .inl (E.2.1, 15, .inl (aN Nw))), (ma15, .inl (E.2.1, 70, .inl (aN (va_up (va_up (va_up Wr wm 42) (wm + 1) (97 + (v / 10 % 10))) ((wm + 1) + 1) 61))))] rfl rfl [] rfl 33 rfl ?_
    refine G_aload_n C dX7_writesOut_33 rfl 34 rfl ?_
    refine G_iload_n C dX7_writesOut_34 rfl 35 rfl ?_
    refine G_cV C dX7_writesOut_35 (c_X7_sortOf l E mo ma0 ma1 ma2 ma4 ma5 ma7 ma9 ma10 ma11 ma12 ma15 ns mlen mm pl (((wm + 1) + 1) + 1) gw hh Nw i v (by first | assumption | omega) (by first | assumption | omega) (by first | assumption | omega)) wm_X7_75 wi_X7_sortOf wsel_X7_sortOf wn_X7 wc_X7_sortOf rfl rfl ⟨by decide, by decide, rfl⟩ rfl (Nat.le_of_ble_eq_true rfl) 7 rfl rfl 0 rfl [0, 1] [2] (wr := [(ma15, .inl (E.2.1, 70, .inl (aN (va_up (va_up (va_up Wr wm 42) (wm + 1) (97 + (v / 10 % 10))) ((wm + 1) + 1) 61))))]) rfl rfl rfl rfl rfl [1, 2, 0] rfl [(mo, .inr (7, [.ref ma0, .ref ma1, .ref ma2, .int (nI ns), .ref ma4, .ref ma5, .int (nI mlen), .ref ma7, .int (bI gw), .ref ma9, .ref ma10, .ref ma11, .ref ma12, .int (nI mm), .int (nI pl), .ref ma15, .int (nI (((wm + 1) + 1) + 1)), .long hh])), (ma0, .inl (E.2.1, 15, .inl (aN Nw))), (ma15, .inl (E.2.1, 70, .inl (aN (va_up (va_up (va_up Wr wm 42) (wm + 1) (97 + (v / 10 % 10))) ((wm + 1) + 1) 61))))] rfl rfl [.int (nI (v / 100))] rfl 38 rfl ?_
    refine G_top (v' := .int (nI 3)) (by rw [hs]) ?_
    refine G_if_eq_f C dX7_writesOut_38 50 rfl 41 rfl (by decide) ?_
    refine G_aload_n C dX7_writesOut_41 rfl 42 rfl ?_
    refine G_iload_n C dX7_writesOut_42 rfl 43 rfl ?_
    refine G_cV C dX7_writesOut_43 (c_X7_sortOf l E mo ma0 ma1 ma2 ma4 ma5 ma7 ma9 ma10 ma11 ma12 ma15 ns mlen mm pl (((wm + 1) + 1) + 1) gw hh Nw i v (by first | assumption | omega) (by first | assumption | omega) (by first | assumption | omega)) wm_X7_75 wi_X7_sortOf wsel_X7_sortOf wn_X7 wc_X7_sortOf rfl rfl ⟨by decide, by decide, rfl⟩ rfl (Nat.le_of_ble_eq_true rfl) 7 rfl rfl 0 rfl [0, 1] [2] (wr := [(ma15, .inl (E.2.1, 70, .inl (aN (va_up (va_up (va_up Wr wm 42) (wm + 1) (97 + (v / 10 % 10))) ((wm + 1) + 1) 61))))]) rfl rfl rfl rfl rfl [1, 2, 0] rfl [(mo, .inr (7, [.ref ma0, .ref ma1, .ref ma2, .int (nI ns), .ref ma4, .ref ma5, .int (nI mlen), .ref ma7, .int (bI gw), .ref ma9, .ref ma10, .ref ma11, .ref ma12, .int (nI mm), .int (nI pl), .ref ma15, .int (nI (((wm + 1) + 1) + 1)), .long hh])), (ma0, .inl (E.2.1, 15, .inl (aN Nw))), (ma15, .inl (E.2.1, 70, .inl (aN (va_up (va_up (va_up Wr wm 42) (wm + 1) (97 + (v / 10 % 10))) ((wm + 1) + 1) 61))))] rfl rfl [.int (nI (v / 100))] rfl 46 rfl ?_
    refine G_top (v' := .int (nI 3)) (by rw [hs]) ?_
    refine G_iconst C dX7_writesOut_46 (v := nI 2) rfl 47 rfl ?_
    refine G_icmp_ne_t C dX7_writesOut_47 69 rfl (by decide) ?_
    refine G_aload_n C dX7_writesOut_69 rfl 70 rfl ?_
    refine G_bipush C dX7_writesOut_70 (v := nI 97) (by decide) 72 rfl ?_
    refine G_aload_n C dX7_writesOut_72 rfl 73 rfl ?_
    refine G_iload_n C dX7_writesOut_73 rfl 74 rfl ?_
    refine G_cV C dX7_writesOut_74 (c_X7_yOf l E mo ma0 ma1 ma2 ma4 ma5 ma7 ma9 ma10 ma11 ma12 ma15 ns mlen mm pl (((wm + 1) + 1) + 1) gw hh Nw i v (by first | assumption | omega) (by first | assumption | omega) (by first | assumption | omega)) wm_X7_72 wi_X7_yOf wsel_X7_yOf wn_X7 wc_X7_yOf rfl rfl ⟨by decide, by decide, rfl⟩ rfl (Nat.le_of_ble_eq_true rfl) 7 rfl rfl 0 rfl [0, 1] [2] (wr := [(ma15, .inl (E.2.1, 70, .inl (aN (va_up (va_up (va_up Wr wm 42) (wm + 1) (97 + (v / 10 % 10))) ((wm + 1) + 1) 61))))]) rfl rfl rfl rfl rfl [1, 2, 0] rfl [(mo, .inr (7, [.ref ma0, .ref ma1, .ref ma2, .int (nI ns), .ref ma4, .ref ma5, .int (nI mlen), .ref ma7, .int (bI gw), .ref ma9, .ref ma10, .ref ma11, .ref ma12, .int (nI mm), .int (nI pl), .ref ma15, .int (nI (((wm + 1) + 1) + 1)), .long hh])), (ma0, .inl (E.2.1, 15, .inl (aN Nw))), (ma15, .inl (E.2.1, 70, .inl (aN (va_up (va_up (va_up Wr wm 42) (wm + 1) (97 + (v / 10 % 10))) ((wm + 1) + 1) 61))))] rfl rfl [.int (nI (v % 10)), .int (nI 97), .ref mo] rfl 77 rfl ?_
    refine G_iadd C dX7_writesOut_77 (v := nI (97 + (v % 10))) (nI_add _ _) 78 rfl ?_
    refine G_cV C dX7_writesOut_78 (c_X7_puts l E mo ma0 ma1 ma2 ma4 ma5 ma7 ma9 ma10 ma11 ma12 ma15 ns mlen mm pl (((wm + 1) + 1) + 1) gw hh (va_up (va_up (va_up Wr wm 42) (wm + 1) (97 + (v / 10 % 10))) ((wm + 1) + 1) 61) (97 + (v % 10)) (by first | assumption | omega)) wm_X7_162 wi_X7_puts wsel_X7_puts wn_X7 wc_X7_puts rfl rfl ⟨by decide, by decide, rfl⟩ rfl (Nat.le_of_ble_eq_true rfl) 7 rfl rfl 0 rfl [0, 2] [1] (wr := [(ma0, .inl (E.2.1, 15, .inl (aN Nw)))]) rfl rfl rfl rfl rfl [1, 0, 2] rfl [(mo, .inr (7, [.ref ma0, .ref ma1, .ref ma2, .int (nI ns), .ref ma4, .ref ma5, .int (nI mlen), .ref ma7, .int (bI gw), .ref ma9, .ref ma10, .ref ma11, .ref ma12, .int (nI mm), .int (nI pl), .ref ma15, .int (nI ((((wm + 1) + 1) + 1) + 1)), .long hh])), (ma0, .inl (E.2.1, 15, .inl (aN Nw))), (ma15, .inl (E.2.1, 70, .inl (aN (va_up (va_up (va_up (va_up Wr wm 42) (wm + 1) (97 + (v / 10 % 10))) ((wm + 1) + 1) 61) (((wm + 1) + 1) + 1) (97 + (v % 10))))))] rfl rfl [] rfl 81 rfl ?_
    refine G_aload_n C dX7_writesOut_81 rfl 82 rfl ?_
    refine G_bipush C dX7_writesOut_82 (v := nI 59) (by decide) 84 rfl ?_
    refine G_cV C dX7_writesOut_84 (c_X7_puts l E mo ma0 ma1 ma2 ma4 ma5 ma7 ma9 ma10 ma11 ma12 ma15 ns mlen mm pl ((((wm + 1) + 1) + 1) + 1) gw hh (va_up (va_up (va_up (va_up Wr wm 42) (wm + 1) (97 + (v / 10 % 10))) ((wm + 1) + 1) 61) (((wm + 1) + 1) + 1) (97 + (v % 10))) 59 (by first | assumption | omega)) wm_X7_162 wi_X7_puts wsel_X7_puts wn_X7 wc_X7_puts rfl rfl ⟨by decide, by decide, rfl⟩ rfl (Nat.le_of_ble_eq_true rfl) 7 rfl rfl 0 rfl [0, 2] [1] (wr := [(ma0, .inl (E.2.1, 15, .inl (aN Nw)))]) rfl rfl rfl rfl rfl [1, 0, 2] rfl [(mo, .inr (7, [.ref ma0, .ref ma1, .ref ma2, .int (nI ns), .ref ma4, .ref ma5, .int (nI mlen), .ref ma7, .int (bI gw), .ref ma9, .ref ma10, .ref ma11, .ref ma12, .int (nI mm), .int (nI pl), .ref ma15, .int (nI (((((wm + 1) + 1) + 1) + 1) + 1)), .long hh])), (ma0, .inl (E.2.1, 15, .inl (aN Nw))), (ma15, .inl (E.2.1, 70, .inl (aN (va_up (va_up (va_up (va_up (va_up Wr wm 42) (wm + 1) (97 + (v / 10 % 10))) ((wm + 1) + 1) 61) (((wm + 1) + 1) + 1) (97 + (v % 10))) ((((wm + 1) + 1) + 1) + 1) 59))))] rfl rfl [] rfl 87 rfl ?_
    exact G_vret C hr dX7_writesOut_87 () trivial rfl (by simp only [lbs, ll, hs]; rfl)

set_option maxHeartbeats 4000000 in
set_option maxRecDepth 100000 in
theorem m_shown_bad (l : Launch) (E : gE) (mo ma0 ma1 ma2 ma4 ma5 ma7 ma9 ma10 ma11 ma12 ma15 ns mlen mm pl wm : Nat) (gw : Bool) (hh : Int64) (Rf : Nat → Nat) (va : Int32) (hbad : va.toInt < -1) : FD l E yX7_shown cX7_shown 3 (some .int) { frames := 2, cells := 0, slots := 0, locals := 42 } [.ref mo, .int va] [(mo, .inr (7, [.ref ma0, .ref ma1, .ref ma2, .int (nI ns), .ref ma4, .ref ma5, .int (nI mlen), .ref ma7, .int (bI gw), .ref ma9, .ref ma10, .ref ma11, .ref ma12, .int (nI mm), .int (nI pl), .ref ma15, .int (nI wm), .long hh])), (ma4, .inl (E.2.1, 3, .inl (aN Rf)))] (some (.int (-2 : Int32))) [(mo, .inr (7, [.ref ma0, .ref ma1, .ref ma2, .int (nI ns), .ref ma4, .ref ma5, .int (nI mlen), .ref ma7, .int (bI gw), .ref ma9, .ref ma10, .ref ma11, .ref ma12, .int (nI mm), .int (nI pl), .ref ma15, .int (nI wm), .long hh])), (ma4, .inl (E.2.1, 3, .inl (aN (va_up Rf 0 (Rf 0 + 1)))))] := by
  refine Fn_ofL (own := RX7) (by decide) rfl rfl [(0, .ref mo), (1, .int va)] rfl ?_
  intro p e s m below meth c A C hr hnm
  refine G_iload_n C dX7_shown_0 rfl 1 rfl ?_
  refine G_iconst C dX7_shown_1 (v := oI none) rfl 2 rfl ?_
  refine G_icmp_ge_f C dX7_shown_2 12 rfl 5 rfl (by rw [i_le, neg1_toInt]; omega) ?_
  refine G_aload_n C dX7_shown_5 rfl 6 rfl ?_
  refine G_bipush C dX7_shown_6 (v := (-2 : Int32)) (by decide) 8 rfl ?_
  refine G_cV C dX7_shown_8 (c_X7_counts0 l E mo ma0 ma1 ma2 ma4 ma5 ma7 ma9 ma10 ma11 ma12 ma15 ns mlen mm pl wm gw hh Rf ) wm_X7_51 wi_X7_counts wsel_X7_counts wn_X7 wc_X7_counts rfl rfl ⟨by decide, by decide, rfl⟩ rfl (Nat.le_of_ble_eq_true rfl) 7 rfl rfl 0 rfl [0, 1] [] (wr := []) rfl rfl rfl rfl rfl [0, 1] rfl [(mo, .inr (7, [.ref ma0, .ref ma1, .ref ma2, .int (nI ns), .ref ma4, .ref ma5, .int (nI mlen), .ref ma7, .int (bI gw), .ref ma9, .ref ma10, .ref ma11, .ref ma12, .int (nI mm), .int (nI pl), .ref ma15, .int (nI wm), .long hh])), (ma4, .inl (E.2.1, 3, .inl (aN (va_up Rf 0 (Rf 0 + 1)))))] rfl rfl [.int (-2 : Int32)] rfl 11 rfl ?_
  exact G_iret C hr dX7_shown_11 rfl () trivial rfl rfl

set_option maxHeartbeats 4000000 in
set_option maxRecDepth 100000 in
theorem m_shown_len (l : Launch) (E : gE) (mo ma0 ma1 ma2 ma4 ma5 ma7 ma9 ma10 ma11 ma12 ma15 ns mlen mm pl wm : Nat) (gw : Bool) (hh : Int64) (Nw : Nat → Nat) (Wr : Nat → Nat) (ln : Nat → Nat) (n : Nat) (hok : mok n ln Nw) : FD l E yX7_shown cX7_shown 3 (some .int) { frames := 2, cells := 0, slots := 0, locals := 42 } [.ref mo, .int (oI none)] [(mo, .inr (7, [.ref ma0, .ref ma1, .ref ma2, .int (nI ns), .ref ma4, .ref ma5, .int (nI mlen), .ref ma7, .int (bI gw), .ref ma9, .ref ma10, .ref ma11, .ref ma12, .int (nI mm), .int (nI pl), .ref ma15, .int (nI wm), .long hh])), (ma0, .inl (E.2.1, 15, .inl (aN Nw))), (ma15, .inl (E.2.1, 70, .inl (aN Wr)))] (some (.int (nI (wlen ln n)))) [(mo, .inr (7, [.ref ma0, .ref ma1, .ref ma2, .int (nI ns), .ref ma4, .ref ma5, .int (nI mlen), .ref ma7, .int (bI gw), .ref ma9, .ref ma10, .ref ma11, .ref ma12, .int (nI mm), .int (nI pl), .ref ma15, .int (nI (wlen ln n)), .long hh])), (ma0, .inl (E.2.1, 15, .inl (aN Nw))), (ma15, .inl (E.2.1, 70, .inl (aN (wri Wr ln n))))] := by
  refine Fn_ofL (own := RX7) (by decide) rfl rfl [(0, .ref mo), (1, .int (oI none))] rfl ?_
  intro p e s m below meth c A C hr hnm
  have h14 : n ≤ 14 := hok.n
  refine G_iload_n C dX7_shown_0 rfl 1 rfl ?_
  refine G_iconst C dX7_shown_1 (v := oI none) rfl 2 rfl ?_
  refine G_icmp_ge_t C dX7_shown_2 12 rfl (by decide) ?_
  refine G_aload_n C dX7_shown_12 rfl 13 rfl ?_
  refine G_iconst C dX7_shown_13 (v := nI 0) rfl 14 rfl ?_
  refine G_putf C dX7_shown_14 wF_X7 wf_X7_159 (f := 16) (by decide) (ci := 7) rfl tyX7_ok nmX7 rfl 0 rfl rfl rfl (Nat.le_of_ble_eq_true rfl) [(mo, .inr (7, [.ref ma0, .ref ma1, .ref ma2, .int (nI ns), .ref ma4, .ref ma5, .int (nI mlen), .ref ma7, .int (bI gw), .ref ma9, .ref ma10, .ref ma11, .ref ma12, .int (nI mm), .int (nI pl), .ref ma15, .int (nI 0), .long hh])), (ma0, .inl (E.2.1, 15, .inl (aN Nw))), (ma15, .inl (E.2.1, 70, .inl (aN Wr)))] rfl 17 rfl ?_
  refine G_iconst C dX7_shown_17 (v := nI 0) rfl 18 rfl ?_
  refine G_istore_n C dX7_shown_18 (by decide) [(2, .int (nI 0)), (0, .ref mo), (1, .int (oI none))] rfl 19 rfl ?_
  refine G_eq (ws' := [(mo, .inr (7, [.ref ma0, .ref ma1, .ref ma2, .int (nI ns), .ref ma4, .ref ma5, .int (nI mlen), .ref ma7, .int (bI gw), .ref ma9, .ref ma10, .ref ma11, .ref ma12, .int (nI mm), .int (nI pl), .ref ma15, .int (nI (wlen ln 0)), .long hh])), (ma0, .inl (E.2.1, 15, .inl (aN Nw))), (ma15, .inl (E.2.1, 70, .inl (aN (wri Wr ln 0))))]) rfl rfl rfl ?_
  refine G_while (X := Nat) (Wf := fun i => [(mo, .inr (7, [.ref ma0, .ref ma1, .ref ma2, .int (nI ns), .ref ma4, .ref ma5, .int (nI mlen), .ref ma7, .int (bI gw), .ref ma9, .ref ma10, .ref ma11, .ref ma12, .int (nI mm), .int (nI pl), .ref ma15, .int (nI (wlen ln i)), .long hh])), (ma0, .inl (E.2.1, 15, .inl (aN Nw))), (ma15, .inl (E.2.1, 70, .inl (aN (wri Wr ln i))))]) (Lf := fun i => [(2, .int (nI i)), (0, .ref mo), (1, .int (oI none))]) (Sf := fun _ => []) (fun i => i ≤ n) (fun i => n - i) (fun i hi ih => ?_) 0 (by omega)
  refine G_iload_n C dX7_shown_19 rfl 20 rfl ?_
  refine G_aload_n C dX7_shown_20 rfl 21 rfl ?_
  refine G_getf C dX7_shown_21 wF_X7 wf_X7_7 (f := 0) (by decide) (ci := 7) rfl 0 rfl rfl 24 rfl ?_
  refine G_iconst C dX7_shown_24 (v := nI 0) rfl 25 rfl ?_
  refine G_ialdN C dX7_shown_25 1 rfl rfl (by omega) 26 rfl ?_
  refine G_top (v' := .int (nI n)) (by rw [hok.z]) ?_
  refine G_icmp_ge C dX7_shown_26 40 rfl 29 rfl (nI_leI (by omega) (by omega)) (fun h_1 => ?_) (fun h_1 => ?_)
  · refine G_eq (ws' := [(mo, .inr (7, [.ref ma0, .ref ma1, .ref ma2, .int (nI ns), .ref ma4, .ref ma5, .int (nI mlen), .ref ma7, .int (bI gw), .ref ma9, .ref ma10, .ref ma11, .ref ma12, .int (nI mm), .int (nI pl), .ref ma15, .int (nI (wlen ln n)), .long hh])), (ma0, .inl (E.2.1, 15, .inl (aN Nw))), (ma15, .inl (E.2.1, 70, .inl (aN (wri Wr ln n))))]) (by rw [show i = n by omega]) rfl rfl ?_
    refine G_iload_n C dX7_shown_40 rfl 41 rfl ?_
    refine G_iconst C dX7_shown_41 (v := oI none) rfl 42 rfl ?_
    refine G_icmp_ne_f C dX7_shown_42 52 rfl 45 rfl (by decide) ?_
    refine G_aload_n C dX7_shown_45 rfl 46 rfl ?_
    refine G_getf C dX7_shown_46 wF_X7 wf_X7_159 (f := 16) (by decide) (ci := 7) rfl 0 rfl rfl 49 rfl ?_
    refine G_goto C dX7_shown_49 71 rfl ?_
    exact G_iret C hr dX7_shown_71 rfl () trivial rfl rfl
  · refine G_aload_n C dX7_shown_29 rfl 30 rfl ?_
    refine G_iload_n C dX7_shown_30 rfl 31 rfl ?_
    refine G_cV C dX7_shown_31 (c_X7_writesOut l E mo ma0 ma1 ma2 ma4 ma5 ma7 ma9 ma10 ma11 ma12 ma15 ns mlen mm pl (wlen ln i) gw hh Nw (wri Wr ln i) i (ln i) (by omega) (hok.c (by omega)) (hok.v (by omega)) (by have := wlen_le ln i; omega)) wm_X7_165 wi_X7_writesOut wsel_X7_writesOut wn_X7 wc_X7_writesOut rfl rfl ⟨by decide, by decide, rfl⟩ rfl (Nat.le_of_ble_eq_true rfl) 7 rfl rfl 0 rfl [0, 1, 2] [] (wr := []) rfl rfl rfl rfl rfl [0, 1, 2] rfl [(mo, .inr (7, [.ref ma0, .ref ma1, .ref ma2, .int (nI ns), .ref ma4, .ref ma5, .int (nI mlen), .ref ma7, .int (bI gw), .ref ma9, .ref ma10, .ref ma11, .ref ma12, .int (nI mm), .int (nI pl), .ref ma15, .int (nI ((wlen ln i) + ll (ln i))), .long hh])), (ma0, .inl (E.2.1, 15, .inl (aN Nw))), (ma15, .inl (E.2.1, 70, .inl (aN (lput (wri Wr ln i) (wlen ln i) (lbs (ln i))))))] rfl rfl [] rfl 34 rfl ?_
    refine G_iinc C dX7_shown_34 0 rfl (nI_1 _) (by decide) [(2, .int (nI (i + 1))), (0, .ref mo), (1, .int (oI none))] rfl 37 rfl ?_
    refine G_goto C dX7_shown_37 19 rfl ?_
    refine G_eq (ws' := [(mo, .inr (7, [.ref ma0, .ref ma1, .ref ma2, .int (nI ns), .ref ma4, .ref ma5, .int (nI mlen), .ref ma7, .int (bI gw), .ref ma9, .ref ma10, .ref ma11, .ref ma12, .int (nI mm), .int (nI pl), .ref ma15, .int (nI (wlen ln (i + 1))), .long hh])), (ma0, .inl (E.2.1, 15, .inl (aN Nw))), (ma15, .inl (E.2.1, 70, .inl (aN (wri Wr ln (i + 1)))))]) rfl rfl rfl ?_
    exact ih (i + 1) (by omega) (by omega)

set_option maxHeartbeats 4000000 in
set_option maxRecDepth 100000 in
theorem m_shown_byte (l : Launch) (E : gE) (mo ma0 ma1 ma2 ma4 ma5 ma7 ma9 ma10 ma11 ma12 ma15 ns mlen mm pl wm : Nat) (gw : Bool) (hh : Int64) (Nw : Nat → Nat) (Wr : Nat → Nat) (ln : Nat → Nat) (n k : Nat) (hok : mok n ln Nw) (hk : k < 2 ^ 31) : FD l E yX7_shown cX7_shown 3 (some .int) { frames := 2, cells := 0, slots := 0, locals := 42 } [.ref mo, .int (nI k)] [(mo, .inr (7, [.ref ma0, .ref ma1, .ref ma2, .int (nI ns), .ref ma4, .ref ma5, .int (nI mlen), .ref ma7, .int (bI gw), .ref ma9, .ref ma10, .ref ma11, .ref ma12, .int (nI mm), .int (nI pl), .ref ma15, .int (nI wm), .long hh])), (ma0, .inl (E.2.1, 15, .inl (aN Nw))), (ma15, .inl (E.2.1, 70, .inl (aN Wr)))] (some (.int (tI (tb ln n k)))) [(mo, .inr (7, [.ref ma0, .ref ma1, .ref ma2, .int (nI ns), .ref ma4, .ref ma5, .int (nI mlen), .ref ma7, .int (bI gw), .ref ma9, .ref ma10, .ref ma11, .ref ma12, .int (nI mm), .int (nI pl), .ref ma15, .int (nI (wlen ln n)), .long hh])), (ma0, .inl (E.2.1, 15, .inl (aN Nw))), (ma15, .inl (E.2.1, 70, .inl (aN (wri Wr ln n))))] := by
  refine Fn_ofL (own := RX7) (by decide) rfl rfl [(0, .ref mo), (1, .int (nI k))] rfl ?_
  intro p e s m below meth c A C hr hnm
  have h14 : n ≤ 14 := hok.n
  have hwl := wlen_le ln n
  refine G_iload_n C dX7_shown_0 rfl 1 rfl ?_
  refine G_iconst C dX7_shown_1 (v := oI none) rfl 2 rfl ?_
  refine G_icmp_ge_t C dX7_shown_2 12 rfl (by rw [i_le, neg1_toInt, nI_toInt hk]; omega) ?_
  refine G_aload_n C dX7_shown_12 rfl 13 rfl ?_
  refine G_iconst C dX7_shown_13 (v := nI 0) rfl 14 rfl ?_
  refine G_putf C dX7_shown_14 wF_X7 wf_X7_159 (f := 16) (by decide) (ci := 7) rfl tyX7_ok nmX7 rfl 0 rfl rfl rfl (Nat.le_of_ble_eq_true rfl) [(mo, .inr (7, [.ref ma0, .ref ma1, .ref ma2, .int (nI ns), .ref ma4, .ref ma5, .int (nI mlen), .ref ma7, .int (bI gw), .ref ma9, .ref ma10, .ref ma11, .ref ma12, .int (nI mm), .int (nI pl), .ref ma15, .int (nI 0), .long hh])), (ma0, .inl (E.2.1, 15, .inl (aN Nw))), (ma15, .inl (E.2.1, 70, .inl (aN Wr)))] rfl 17 rfl ?_
  refine G_iconst C dX7_shown_17 (v := nI 0) rfl 18 rfl ?_
  refine G_istore_n C dX7_shown_18 (by decide) [(2, .int (nI 0)), (0, .ref mo), (1, .int (nI k))] rfl 19 rfl ?_
  refine G_eq (ws' := [(mo, .inr (7, [.ref ma0, .ref ma1, .ref ma2, .int (nI ns), .ref ma4, .ref ma5, .int (nI mlen), .ref ma7, .int (bI gw), .ref ma9, .ref ma10, .ref ma11, .ref ma12, .int (nI mm), .int (nI pl), .ref ma15, .int (nI (wlen ln 0)), .long hh])), (ma0, .inl (E.2.1, 15, .inl (aN Nw))), (ma15, .inl (E.2.1, 70, .inl (aN (wri Wr ln 0))))]) rfl rfl rfl ?_
  refine G_while (X := Nat) (Wf := fun i => [(mo, .inr (7, [.ref ma0, .ref ma1, .ref ma2, .int (nI ns), .ref ma4, .ref ma5, .int (nI mlen), .ref ma7, .int (bI gw), .ref ma9, .ref ma10, .ref ma11, .ref ma12, .int (nI mm), .int (nI pl), .ref ma15, .int (nI (wlen ln i)), .long hh])), (ma0, .inl (E.2.1, 15, .inl (aN Nw))), (ma15, .inl (E.2.1, 70, .inl (aN (wri Wr ln i))))]) (Lf := fun i => [(2, .int (nI i)), (0, .ref mo), (1, .int (nI k))]) (Sf := fun _ => []) (fun i => i ≤ n) (fun i => n - i) (fun i hi ih => ?_) 0 (by omega)
  refine G_iload_n C dX7_shown_19 rfl 20 rfl ?_
  refine G_aload_n C dX7_shown_20 rfl 21 rfl ?_
  refine G_getf C dX7_shown_21 wF_X7 wf_X7_7 (f := 0) (by decide) (ci := 7) rfl 0 rfl rfl 24 rfl ?_
  refine G_iconst C dX7_shown_24 (v := nI 0) rfl 25 rfl ?_
  refine G_ialdN C dX7_shown_25 1 rfl rfl (by omega) 26 rfl ?_
  refine G_top (v' := .int (nI n)) (by rw [hok.z]) ?_
  refine G_icmp_ge C dX7_shown_26 40 rfl 29 rfl (nI_leI (by omega) (by omega)) (fun h_1 => ?_) (fun h_1 => ?_)
  · refine G_eq (ws' := [(mo, .inr (7, [.ref ma0, .ref ma1, .ref ma2, .int (nI ns), .ref ma4, .ref ma5, .int (nI mlen), .ref ma7, .int (bI gw), .ref ma9, .ref ma10, .ref ma11, .ref ma12, .int (nI mm), .int (nI pl), .ref ma15, .int (nI (wlen ln n)), .long hh])), (ma0, .inl (E.2.1, 15, .inl (aN Nw))), (ma15, .inl (E.2.1, 70, .inl (aN (wri Wr ln n))))]) (by rw [show i = n by omega]) rfl rfl ?_
    refine G_iload_n C dX7_shown_40 rfl 41 rfl ?_
    refine G_iconst C dX7_shown_41 (v := oI none) rfl 42 rfl ?_
    refine G_icmp_ne_t C dX7_shown_42 52 rfl (oI_ne hk) ?_
    refine G_iload_n C dX7_shown_52 rfl 53 rfl ?_
    refine G_aload_n C dX7_shown_53 rfl 54 rfl ?_
    refine G_getf C dX7_shown_54 wF_X7 wf_X7_159 (f := 16) (by decide) (ci := 7) rfl 0 rfl rfl 57 rfl ?_
    refine G_icmp_ge C dX7_shown_57 69 rfl 60 rfl (nI_leI (by omega) (by omega)) (fun h_5 => ?_) (fun h_5 => ?_)
    · refine G_bipush C dX7_shown_69 (v := (-5 : Int32)) (by decide) 71 rfl ?_
      exact G_iret C hr dX7_shown_71 rfl () trivial (by rw [tb_none ln k n h_5]; rfl) rfl
    · refine G_aload_n C dX7_shown_60 rfl 61 rfl ?_
      refine G_getf C dX7_shown_61 wF_X7 wf_X7_40 (f := 15) (by decide) (ci := 7) rfl 0 rfl rfl 64 rfl ?_
      refine G_iload_n C dX7_shown_64 rfl 65 rfl ?_
      refine G_ialdN C dX7_shown_65 2 rfl rfl (by omega) 66 rfl ?_
      refine G_goto C dX7_shown_66 71 rfl ?_
      exact G_iret C hr dX7_shown_71 rfl () trivial (by rw [wri_tb Wr ln n k (by omega)]; rfl) rfl
  · refine G_aload_n C dX7_shown_29 rfl 30 rfl ?_
    refine G_iload_n C dX7_shown_30 rfl 31 rfl ?_
    refine G_cV C dX7_shown_31 (c_X7_writesOut l E mo ma0 ma1 ma2 ma4 ma5 ma7 ma9 ma10 ma11 ma12 ma15 ns mlen mm pl (wlen ln i) gw hh Nw (wri Wr ln i) i (ln i) (by omega) (hok.c (by omega)) (hok.v (by omega)) (by have := wlen_le ln i; omega)) wm_X7_165 wi_X7_writesOut wsel_X7_writesOut wn_X7 wc_X7_writesOut rfl rfl ⟨by decide, by decide, rfl⟩ rfl (Nat.le_of_ble_eq_true rfl) 7 rfl rfl 0 rfl [0, 1, 2] [] (wr := []) rfl rfl rfl rfl rfl [0, 1, 2] rfl [(mo, .inr (7, [.ref ma0, .ref ma1, .ref ma2, .int (nI ns), .ref ma4, .ref ma5, .int (nI mlen), .ref ma7, .int (bI gw), .ref ma9, .ref ma10, .ref ma11, .ref ma12, .int (nI mm), .int (nI pl), .ref ma15, .int (nI ((wlen ln i) + ll (ln i))), .long hh])), (ma0, .inl (E.2.1, 15, .inl (aN Nw))), (ma15, .inl (E.2.1, 70, .inl (aN (lput (wri Wr ln i) (wlen ln i) (lbs (ln i))))))] rfl rfl [] rfl 34 rfl ?_
    refine G_iinc C dX7_shown_34 0 rfl (nI_1 _) (by decide) [(2, .int (nI (i + 1))), (0, .ref mo), (1, .int (nI k))] rfl 37 rfl ?_
    refine G_goto C dX7_shown_37 19 rfl ?_
    refine G_eq (ws' := [(mo, .inr (7, [.ref ma0, .ref ma1, .ref ma2, .int (nI ns), .ref ma4, .ref ma5, .int (nI mlen), .ref ma7, .int (bI gw), .ref ma9, .ref ma10, .ref ma11, .ref ma12, .int (nI mm), .int (nI pl), .ref ma15, .int (nI (wlen ln (i + 1))), .long hh])), (ma0, .inl (E.2.1, 15, .inl (aN Nw))), (ma15, .inl (E.2.1, 70, .inl (aN (wri Wr ln (i + 1)))))]) rfl rfl rfl ?_
    exact ih (i + 1) (by omega) (by omega)

set_option maxHeartbeats 4000000 in
set_option maxRecDepth 100000 in
theorem c_X7_mix (l : Launch) (E : gE) (mo ma0 ma1 ma2 ma4 ma5 ma7 ma9 ma10 ma11 ma12 ma15 ns mlen mm pl wm : Nat) (gw : Bool) (hh : Int64) (v : Int32)  : FD l E yX7_mix cX7_mix 2 none { frames := 0, cells := 0, slots := 0, locals := 0 } [.ref mo, .int v] [(mo, .inr (7, [.ref ma0, .ref ma1, .ref ma2, .int (nI ns), .ref ma4, .ref ma5, .int (nI mlen), .ref ma7, .int (bI gw), .ref ma9, .ref ma10, .ref ma11, .ref ma12, .int (nI mm), .int (nI pl), .ref ma15, .int (nI wm), .long hh]))] none [(mo, .inr (7, [.ref ma0, .ref ma1, .ref ma2, .int (nI ns), .ref ma4, .ref ma5, .int (nI mlen), .ref ma7, .int (bI gw), .ref ma9, .ref ma10, .ref ma11, .ref ma12, .int (nI mm), .int (nI pl), .ref ma15, .int (nI wm), .long (mx hh v)]))] := by
  refine Fn_ofL (own := RX7) (by decide) rfl rfl [(0, .ref mo), (1, .int v)] rfl ?_
  intro p e s m below meth c A C hr hnm
  refine G_aload_n C dX7_mix_0 rfl 1 rfl ?_
  refine G_ldc2 C dX7_mix_1 wk_X7_171 4 rfl ?_
  refine G_aload_n C dX7_mix_4 rfl 5 rfl ?_
  refine G_getf C dX7_mix_5 wF_X7 wf_X7_173 (f := 17) (by decide) (ci := 7) rfl 0 rfl rfl 8 rfl ?_
  refine G_lmul C dX7_mix_8 rfl 9 rfl ?_
  refine G_iload_n C dX7_mix_9 rfl 10 rfl ?_
  refine G_i2l C dX7_mix_10 rfl 11 rfl ?_
  refine G_ladd C dX7_mix_11 rfl 12 rfl ?_
  refine G_putf C dX7_mix_12 wF_X7 wf_X7_173 (f := 17) (by decide) (ci := 7) rfl tyX7_ok nmX7 rfl 0 rfl rfl rfl (Nat.le_of_ble_eq_true rfl) [(mo, .inr (7, [.ref ma0, .ref ma1, .ref ma2, .int (nI ns), .ref ma4, .ref ma5, .int (nI mlen), .ref ma7, .int (bI gw), .ref ma9, .ref ma10, .ref ma11, .ref ma12, .int (nI mm), .int (nI pl), .ref ma15, .int (nI wm), .long (((31 : Int64) * hh) + v.toInt64)]))] rfl 15 rfl ?_
  exact G_vret C hr dX7_mix_15 () trivial rfl rfl

set_option maxHeartbeats 4000000 in
set_option maxRecDepth 100000 in
theorem c_X7_mixName (l : Launch) (E : gE) (mo ma0 ma1 ma2 ma4 ma5 ma7 ma9 ma10 ma11 ma12 ma15 ns mlen mm pl wm : Nat) (gw : Bool) (hh : Int64) (S : Nat → Nat) (Gp : Nat → Nat) (Tt : Nat → Option Nat) (En : Nat → Option Nat) (Ev : Nat → Nat) (x : Nat) (hG : gok Gp) (hT : tok Tt) (hx : x < 10) : FD l E yX7_mixName cX7_mixName 2 none { frames := 2, cells := 0, slots := 0, locals := 45 } [.ref mo, .int (nI x)] [(mo, .inr (7, [.ref ma0, .ref ma1, .ref ma2, .int (nI ns), .ref ma4, .ref ma5, .int (nI mlen), .ref ma7, .int (bI gw), .ref ma9, .ref ma10, .ref ma11, .ref ma12, .int (nI mm), .int (nI pl), .ref ma15, .int (nI wm), .long hh])), (ma7, .inl (E.2.1, 10, .inl (aN S))), (ma9, .inl (E.2.1, 10, .inl (aN Gp))), (ma10, .inl (E.2.1, 10, .inl (aO Tt))), (ma11, .inl (E.2.1, 10, .inl (aO En))), (ma12, .inl (E.2.1, 10, .inl (aN Ev)))] none [(mo, .inr (7, [.ref ma0, .ref ma1, .ref ma2, .int (nI ns), .ref ma4, .ref ma5, .int (nI mlen), .ref ma7, .int (bI gw), .ref ma9, .ref ma10, .ref ma11, .ref ma12, .int (nI mm), .int (nI pl), .ref ma15, .int (nI wm), .long (mxn S Gp Tt En Ev hh x)])), (ma7, .inl (E.2.1, 10, .inl (aN S))), (ma9, .inl (E.2.1, 10, .inl (aN Gp))), (ma10, .inl (E.2.1, 10, .inl (aO Tt))), (ma11, .inl (E.2.1, 10, .inl (aO En))), (ma12, .inl (E.2.1, 10, .inl (aN Ev)))] := by
  refine Fn_ofL (own := RX7) (by decide) rfl rfl [(0, .ref mo), (1, .int (nI x))] rfl ?_
  intro p e s m below meth c A C hr hnm
  refine G_aload_n C dX7_mixName_0 rfl 1 rfl ?_
  refine G_aload_n C dX7_mixName_1 rfl 2 rfl ?_
  refine G_getf C dX7_mixName_2 wF_X7 wf_X7_25 (f := 7) (by decide) (ci := 7) rfl 0 rfl rfl 5 rfl ?_
  refine G_iload_n C dX7_mixName_5 rfl 6 rfl ?_
  refine G_ialdN C dX7_mixName_6 1 rfl rfl (by omega) 7 rfl ?_
  refine G_cV C dX7_mixName_7 (c_X7_mix l E mo ma0 ma1 ma2 ma4 ma5 ma7 ma9 ma10 ma11 ma12 ma15 ns mlen mm pl wm gw hh (nI (S x)) ) wm_X7_177 wi_X7_mix wsel_X7_mix wn_X7 wc_X7_mix rfl rfl ⟨by decide, by decide, rfl⟩ rfl (Nat.le_of_ble_eq_true rfl) 7 rfl rfl 0 rfl [0] [1, 2, 3, 4, 5] (wr := [(ma7, .inl (E.2.1, 10, .inl (aN S))), (ma9, .inl (E.2.1, 10, .inl (aN Gp))), (ma10, .inl (E.2.1, 10, .inl (aO Tt))), (ma11, .inl (E.2.1, 10, .inl (aO En))), (ma12, .inl (E.2.1, 10, .inl (aN Ev)))]) rfl rfl rfl rfl rfl [5, 0, 1, 2, 3, 4] rfl [(mo, .inr (7, [.ref ma0, .ref ma1, .ref ma2, .int (nI ns), .ref ma4, .ref ma5, .int (nI mlen), .ref ma7, .int (bI gw), .ref ma9, .ref ma10, .ref ma11, .ref ma12, .int (nI mm), .int (nI pl), .ref ma15, .int (nI wm), .long (mx hh (nI (S x)))])), (ma7, .inl (E.2.1, 10, .inl (aN S))), (ma9, .inl (E.2.1, 10, .inl (aN Gp))), (ma10, .inl (E.2.1, 10, .inl (aO Tt))), (ma11, .inl (E.2.1, 10, .inl (aO En))), (ma12, .inl (E.2.1, 10, .inl (aN Ev)))] rfl rfl [] rfl 10 rfl ?_
  refine G_aload_n C dX7_mixName_10 rfl 11 rfl ?_
  refine G_aload_n C dX7_mixName_11 rfl 12 rfl ?_
  refine G_iload_n C dX7_mixName_12 rfl 13 rfl ?_
  refine G_cV C dX7_mixName_13 (c_X7_coarseOf l E mo ma0 ma1 ma2 ma4 ma5 ma7 ma9 ma10 ma11 ma12 ma15 ns mlen mm pl wm gw (mx hh (nI (S x))) Gp Tt x (by first | assumption | omega) (by first | assumption | omega) (by first | assumption | omega)) wm_X7_118 wi_X7_coarseOf wsel_X7_coarseOf wn_X7 wc_X7_coarseOf rfl rfl ⟨by decide, by decide, rfl⟩ rfl (Nat.le_of_ble_eq_true rfl) 7 rfl rfl 0 rfl [0, 2, 3] [1, 4, 5] (wr := [(ma7, .inl (E.2.1, 10, .inl (aN S))), (ma11, .inl (E.2.1, 10, .inl (aO En))), (ma12, .inl (E.2.1, 10, .inl (aN Ev)))]) rfl rfl rfl rfl rfl [3, 0, 4, 5, 1, 2] rfl [(mo, .inr (7, [.ref ma0, .ref ma1, .ref ma2, .int (nI ns), .ref ma4, .ref ma5, .int (nI mlen), .ref ma7, .int (bI gw), .ref ma9, .ref ma10, .ref ma11, .ref ma12, .int (nI mm), .int (nI pl), .ref ma15, .int (nI wm), .long (mx hh (nI (S x)))])), (ma7, .inl (E.2.1, 10, .inl (aN S))), (ma9, .inl (E.2.1, 10, .inl (aN Gp))), (ma10, .inl (E.2.1, 10, .inl (aO Tt))), (ma11, .inl (E.2.1, 10, .inl (aO En))), (ma12, .inl (E.2.1, 10, .inl (aN Ev)))] rfl rfl [.int (nI (cse Gp Tt x)), .ref mo] rfl 16 rfl ?_
  refine G_cV C dX7_mixName_16 (c_X7_mix l E mo ma0 ma1 ma2 ma4 ma5 ma7 ma9 ma10 ma11 ma12 ma15 ns mlen mm pl wm gw (mx hh (nI (S x))) (nI (cse Gp Tt x)) ) wm_X7_177 wi_X7_mix wsel_X7_mix wn_X7 wc_X7_mix rfl rfl ⟨by decide, by decide, rfl⟩ rfl (Nat.le_of_ble_eq_true rfl) 7 rfl rfl 0 rfl [0] [1, 2, 3, 4, 5] (wr := [(ma7, .inl (E.2.1, 10, .inl (aN S))), (ma9, .inl (E.2.1, 10, .inl (aN Gp))), (ma10, .inl (E.2.1, 10, .inl (aO Tt))), (ma11, .inl (E.2.1, 10, .inl (aO En))), (ma12, .inl (E.2.1, 10, .inl (aN Ev)))]) rfl rfl rfl rfl rfl [5, 0, 1, 2, 3, 4] rfl [(mo, .inr (7, [.ref ma0, .ref ma1, .ref ma2, .int (nI ns), .ref ma4, .ref ma5, .int (nI mlen), .ref ma7, .int (bI gw), .ref ma9, .ref ma10, .ref ma11, .ref ma12, .int (nI mm), .int (nI pl), .ref ma15, .int (nI wm), .long (mx (mx hh (nI (S x))) (nI (cse Gp Tt x)))])), (ma7, .inl (E.2.1, 10, .inl (aN S))), (ma9, .inl (E.2.1, 10, .inl (aN Gp))), (ma10, .inl (E.2.1, 10, .inl (aO Tt))), (ma11, .inl (E.2.1, 10, .inl (aO En))), (ma12, .inl (E.2.1, 10, .inl (aN Ev)))] rfl rfl [] rfl 19 rfl ?_
  refine G_aload_n C dX7_mixName_19 rfl 20 rfl ?_
  refine G_aload_n C dX7_mixName_20 rfl 21 rfl ?_
  refine G_getf C dX7_mixName_21 wF_X7 wf_X7_28 (f := 9) (by decide) (ci := 7) rfl 0 rfl rfl 24 rfl ?_
  refine G_iload_n C dX7_mixName_24 rfl 25 rfl ?_
  refine G_ialdN C dX7_mixName_25 2 rfl rfl (by omega) 26 rfl ?_
  refine G_cV C dX7_mixName_26 (c_X7_mix l E mo ma0 ma1 ma2 ma4 ma5 ma7 ma9 ma10 ma11 ma12 ma15 ns mlen mm pl wm gw (mx (mx hh (nI (S x))) (nI (cse Gp Tt x))) (nI (Gp x)) ) wm_X7_177 wi_X7_mix wsel_X7_mix wn_X7 wc_X7_mix rfl rfl ⟨by decide, by decide, rfl⟩ rfl (Nat.le_of_ble_eq_true rfl) 7 rfl rfl 0 rfl [0] [1, 2, 3, 4, 5] (wr := [(ma7, .inl (E.2.1, 10, .inl (aN S))), (ma9, .inl (E.2.1, 10, .inl (aN Gp))), (ma10, .inl (E.2.1, 10, .inl (aO Tt))), (ma11, .inl (E.2.1, 10, .inl (aO En))), (ma12, .inl (E.2.1, 10, .inl (aN Ev)))]) rfl rfl rfl rfl rfl [5, 0, 1, 2, 3, 4] rfl [(mo, .inr (7, [.ref ma0, .ref ma1, .ref ma2, .int (nI ns), .ref ma4, .ref ma5, .int (nI mlen), .ref ma7, .int (bI gw), .ref ma9, .ref ma10, .ref ma11, .ref ma12, .int (nI mm), .int (nI pl), .ref ma15, .int (nI wm), .long (mx (mx (mx hh (nI (S x))) (nI (cse Gp Tt x))) (nI (Gp x)))])), (ma7, .inl (E.2.1, 10, .inl (aN S))), (ma9, .inl (E.2.1, 10, .inl (aN Gp))), (ma10, .inl (E.2.1, 10, .inl (aO Tt))), (ma11, .inl (E.2.1, 10, .inl (aO En))), (ma12, .inl (E.2.1, 10, .inl (aN Ev)))] rfl rfl [] rfl 29 rfl ?_
  refine G_aload_n C dX7_mixName_29 rfl 30 rfl ?_
  refine G_aload_n C dX7_mixName_30 rfl 31 rfl ?_
  refine G_getf C dX7_mixName_31 wF_X7 wf_X7_31 (f := 10) (by decide) (ci := 7) rfl 0 rfl rfl 34 rfl ?_
  refine G_aload_n C dX7_mixName_34 rfl 35 rfl ?_
  refine G_getf C dX7_mixName_35 wF_X7 wf_X7_28 (f := 9) (by decide) (ci := 7) rfl 0 rfl rfl 38 rfl ?_
  refine G_iload_n C dX7_mixName_38 rfl 39 rfl ?_
  refine G_ialdN C dX7_mixName_39 2 rfl rfl (by omega) 40 rfl ?_
  refine G_ialdO C dX7_mixName_40 3 rfl rfl (hG _ hx) 41 rfl ?_
  refine G_cV C dX7_mixName_41 (c_X7_mix l E mo ma0 ma1 ma2 ma4 ma5 ma7 ma9 ma10 ma11 ma12 ma15 ns mlen mm pl wm gw (mx (mx (mx hh (nI (S x))) (nI (cse Gp Tt x))) (nI (Gp x))) (oI (Tt (Gp x))) ) wm_X7_177 wi_X7_mix wsel_X7_mix wn_X7 wc_X7_mix rfl rfl ⟨by decide, by decide, rfl⟩ rfl (Nat.le_of_ble_eq_true rfl) 7 rfl rfl 0 rfl [0] [1, 2, 3, 4, 5] (wr := [(ma7, .inl (E.2.1, 10, .inl (aN S))), (ma9, .inl (E.2.1, 10, .inl (aN Gp))), (ma10, .inl (E.2.1, 10, .inl (aO Tt))), (ma11, .inl (E.2.1, 10, .inl (aO En))), (ma12, .inl (E.2.1, 10, .inl (aN Ev)))]) rfl rfl rfl rfl rfl [5, 0, 1, 2, 3, 4] rfl [(mo, .inr (7, [.ref ma0, .ref ma1, .ref ma2, .int (nI ns), .ref ma4, .ref ma5, .int (nI mlen), .ref ma7, .int (bI gw), .ref ma9, .ref ma10, .ref ma11, .ref ma12, .int (nI mm), .int (nI pl), .ref ma15, .int (nI wm), .long (mx (mx (mx (mx hh (nI (S x))) (nI (cse Gp Tt x))) (nI (Gp x))) (oI (Tt (Gp x))))])), (ma7, .inl (E.2.1, 10, .inl (aN S))), (ma9, .inl (E.2.1, 10, .inl (aN Gp))), (ma10, .inl (E.2.1, 10, .inl (aO Tt))), (ma11, .inl (E.2.1, 10, .inl (aO En))), (ma12, .inl (E.2.1, 10, .inl (aN Ev)))] rfl rfl [] rfl 44 rfl ?_
  refine G_aload_n C dX7_mixName_44 rfl 45 rfl ?_
  refine G_aload_n C dX7_mixName_45 rfl 46 rfl ?_
  refine G_getf C dX7_mixName_46 wF_X7 wf_X7_34 (f := 11) (by decide) (ci := 7) rfl 0 rfl rfl 49 rfl ?_
  refine G_iload_n C dX7_mixName_49 rfl 50 rfl ?_
  refine G_ialdO C dX7_mixName_50 4 rfl rfl (by omega) 51 rfl ?_
  refine G_cV C dX7_mixName_51 (c_X7_mix l E mo ma0 ma1 ma2 ma4 ma5 ma7 ma9 ma10 ma11 ma12 ma15 ns mlen mm pl wm gw (mx (mx (mx (mx hh (nI (S x))) (nI (cse Gp Tt x))) (nI (Gp x))) (oI (Tt (Gp x)))) (oI (En x)) ) wm_X7_177 wi_X7_mix wsel_X7_mix wn_X7 wc_X7_mix rfl rfl ⟨by decide, by decide, rfl⟩ rfl (Nat.le_of_ble_eq_true rfl) 7 rfl rfl 0 rfl [0] [1, 2, 3, 4, 5] (wr := [(ma7, .inl (E.2.1, 10, .inl (aN S))), (ma9, .inl (E.2.1, 10, .inl (aN Gp))), (ma10, .inl (E.2.1, 10, .inl (aO Tt))), (ma11, .inl (E.2.1, 10, .inl (aO En))), (ma12, .inl (E.2.1, 10, .inl (aN Ev)))]) rfl rfl rfl rfl rfl [5, 0, 1, 2, 3, 4] rfl [(mo, .inr (7, [.ref ma0, .ref ma1, .ref ma2, .int (nI ns), .ref ma4, .ref ma5, .int (nI mlen), .ref ma7, .int (bI gw), .ref ma9, .ref ma10, .ref ma11, .ref ma12, .int (nI mm), .int (nI pl), .ref ma15, .int (nI wm), .long (mx (mx (mx (mx (mx hh (nI (S x))) (nI (cse Gp Tt x))) (nI (Gp x))) (oI (Tt (Gp x)))) (oI (En x)))])), (ma7, .inl (E.2.1, 10, .inl (aN S))), (ma9, .inl (E.2.1, 10, .inl (aN Gp))), (ma10, .inl (E.2.1, 10, .inl (aO Tt))), (ma11, .inl (E.2.1, 10, .inl (aO En))), (ma12, .inl (E.2.1, 10, .inl (aN Ev)))] rfl rfl [] rfl 54 rfl ?_
  refine G_aload_n C dX7_mixName_54 rfl 55 rfl ?_
  refine G_aload_n C dX7_mixName_55 rfl 56 rfl ?_
  refine G_getf C dX7_mixName_56 wF_X7 wf_X7_37 (f := 12) (by decide) (ci := 7) rfl 0 rfl rfl 59 rfl ?_
  refine G_iload_n C dX7_mixName_59 rfl 60 rfl ?_
  refine G_ialdN C dX7_mixName_60 5 rfl rfl (by omega) 61 rfl ?_
  refine G_cV C dX7_mixName_61 (c_X7_mix l E mo ma0 ma1 ma2 ma4 ma5 ma7 ma9 ma10 ma11 ma12 ma15 ns mlen mm pl wm gw (mx (mx (mx (mx (mx hh (nI (S x))) (nI (cse Gp Tt x))) (nI (Gp x))) (oI (Tt (Gp x)))) (oI (En x))) (nI (Ev x)) ) wm_X7_177 wi_X7_mix wsel_X7_mix wn_X7 wc_X7_mix rfl rfl ⟨by decide, by decide, rfl⟩ rfl (Nat.le_of_ble_eq_true rfl) 7 rfl rfl 0 rfl [0] [1, 2, 3, 4, 5] (wr := [(ma7, .inl (E.2.1, 10, .inl (aN S))), (ma9, .inl (E.2.1, 10, .inl (aN Gp))), (ma10, .inl (E.2.1, 10, .inl (aO Tt))), (ma11, .inl (E.2.1, 10, .inl (aO En))), (ma12, .inl (E.2.1, 10, .inl (aN Ev)))]) rfl rfl rfl rfl rfl [5, 0, 1, 2, 3, 4] rfl [(mo, .inr (7, [.ref ma0, .ref ma1, .ref ma2, .int (nI ns), .ref ma4, .ref ma5, .int (nI mlen), .ref ma7, .int (bI gw), .ref ma9, .ref ma10, .ref ma11, .ref ma12, .int (nI mm), .int (nI pl), .ref ma15, .int (nI wm), .long (mx (mx (mx (mx (mx (mx hh (nI (S x))) (nI (cse Gp Tt x))) (nI (Gp x))) (oI (Tt (Gp x)))) (oI (En x))) (nI (Ev x)))])), (ma7, .inl (E.2.1, 10, .inl (aN S))), (ma9, .inl (E.2.1, 10, .inl (aN Gp))), (ma10, .inl (E.2.1, 10, .inl (aO Tt))), (ma11, .inl (E.2.1, 10, .inl (aO En))), (ma12, .inl (E.2.1, 10, .inl (aN Ev)))] rfl rfl [] rfl 64 rfl ?_
  exact G_vret C hr dX7_mixName_64 () trivial rfl rfl

set_option maxHeartbeats 4000000 in
set_option maxRecDepth 100000 in
theorem m_digest (l : Launch) (E : gE) (mo ma0 ma1 ma2 ma4 ma5 ma7 ma9 ma10 ma11 ma12 ma15 ns mlen mm pl wm : Nat) (gw : Bool) (hh : Int64) (Nw : Nat → Nat) (Rf : Nat → Nat) (S : Nat → Nat) (Gp : Nat → Nat) (Tt : Nat → Option Nat) (En : Nat → Option Nat) (Ev : Nat → Nat) (ln : Nat → Nat) (n : Nat) (hok : mok n ln Nw) : FD l E yX7_digest cX7_digest 2 (some .long) { frames := 5, cells := 0, slots := 0, locals := 120 } [.ref mo] [(mo, .inr (7, [.ref ma0, .ref ma1, .ref ma2, .int (nI ns), .ref ma4, .ref ma5, .int (nI mlen), .ref ma7, .int (bI gw), .ref ma9, .ref ma10, .ref ma11, .ref ma12, .int (nI mm), .int (nI pl), .ref ma15, .int (nI wm), .long hh])), (ma0, .inl (E.2.1, 15, .inl (aN Nw))), (ma4, .inl (E.2.1, 3, .inl (aN Rf))), (ma7, .inl (E.2.1, 10, .inl (aN S))), (ma9, .inl (E.2.1, 10, .inl (aN Gp))), (ma10, .inl (E.2.1, 10, .inl (aO Tt))), (ma11, .inl (E.2.1, 10, .inl (aO En))), (ma12, .inl (E.2.1, 10, .inl (aN Ev)))] (some (.long (dgst (Rf 0) (Rf 1) (Rf 2) mlen n ns ln (fineC ln n none) (coarG ln n none) (coarT ln n none) (rr ln n (2 * n))))) [(mo, .inr (7, [.ref ma0, .ref ma1, .ref ma2, .int (nI ns), .ref ma4, .ref ma5, .int (nI mlen), .ref ma7, .int (bI false), .ref ma9, .ref ma10, .ref ma11, .ref ma12, .int (nI ((rr ln n (2 * n)).2.2)), .int (nI pl), .ref ma15, .int (nI wm), .long (dgst (Rf 0) (Rf 1) (Rf 2) mlen n ns ln (fineC ln n none) (coarG ln n none) (coarT ln n none) (rr ln n (2 * n)))])), (ma0, .inl (E.2.1, 15, .inl (aN Nw))), (ma4, .inl (E.2.1, 3, .inl (aN Rf))), (ma7, .inl (E.2.1, 10, .inl (aN (fineC ln n none)))), (ma9, .inl (E.2.1, 10, .inl (aN (coarG ln n none)))), (ma10, .inl (E.2.1, 10, .inl (aO (coarT ln n none)))), (ma11, .inl (E.2.1, 10, .inl (aO ((rr ln n (2 * n)).1)))), (ma12, .inl (E.2.1, 10, .inl (aN ((rr ln n (2 * n)).2.1))))] := by
  refine Fn_ofL (own := RX7) (by decide) rfl rfl [(0, .ref mo)] rfl ?_
  intro p e s m below meth c A C hr hnm
  have h14 : n ≤ 14 := hok.n
  refine G_aload_n C dX7_digest_0 rfl 1 rfl ?_
  refine G_ldc2 C dX7_digest_1 wk_X7_180 4 rfl ?_
  refine G_putf C dX7_digest_4 wF_X7 wf_X7_173 (f := 17) (by decide) (ci := 7) rfl tyX7_ok nmX7 rfl 0 rfl rfl rfl (Nat.le_of_ble_eq_true rfl) [(mo, .inr (7, [.ref ma0, .ref ma1, .ref ma2, .int (nI ns), .ref ma4, .ref ma5, .int (nI mlen), .ref ma7, .int (bI gw), .ref ma9, .ref ma10, .ref ma11, .ref ma12, .int (nI mm), .int (nI pl), .ref ma15, .int (nI wm), .long (2531 : Int64)])), (ma0, .inl (E.2.1, 15, .inl (aN Nw))), (ma4, .inl (E.2.1, 3, .inl (aN Rf))), (ma7, .inl (E.2.1, 10, .inl (aN S))), (ma9, .inl (E.2.1, 10, .inl (aN Gp))), (ma10, .inl (E.2.1, 10, .inl (aO Tt))), (ma11, .inl (E.2.1, 10, .inl (aO En))), (ma12, .inl (E.2.1, 10, .inl (aN Ev)))] rfl 7 rfl ?_
  refine G_iconst C dX7_digest_7 (v := nI 0) rfl 8 rfl ?_
  refine G_istore_n C dX7_digest_8 (by decide) [(1, .int (nI 0)), (0, .ref mo)] rfl 9 rfl ?_
  refine G_while (X := Nat) (Wf := fun t6 => [(mo, .inr (7, [.ref ma0, .ref ma1, .ref ma2, .int (nI ns), .ref ma4, .ref ma5, .int (nI mlen), .ref ma7, .int (bI gw), .ref ma9, .ref ma10, .ref ma11, .ref ma12, .int (nI mm), .int (nI pl), .ref ma15, .int (nI wm), .long (mxf (fun w => nI (tly w (Rf 0) (Rf 1) (Rf 2) mlen n ns)) (2531 : Int64) t6)])), (ma0, .inl (E.2.1, 15, .inl (aN Nw))), (ma4, .inl (E.2.1, 3, .inl (aN Rf))), (ma7, .inl (E.2.1, 10, .inl (aN S))), (ma9, .inl (E.2.1, 10, .inl (aN Gp))), (ma10, .inl (E.2.1, 10, .inl (aO Tt))), (ma11, .inl (E.2.1, 10, .inl (aO En))), (ma12, .inl (E.2.1, 10, .inl (aN Ev)))]) (Lf := fun t6 => [(1, .int (nI t6)), (0, .ref mo)]) (Sf := fun _ => []) (fun t6 => t6 ≤ 6) (fun t6 => 6 - t6) (fun t6 hi9 ih9 => ?_) 0 (by omega)
  refine G_iload_n C dX7_digest_9 rfl 10 rfl ?_
  refine G_bipush C dX7_digest_10 (v := nI 6) (by decide) 12 rfl ?_
  refine G_icmp_ge C dX7_digest_12 30 rfl 15 rfl (nI_leI (by omega) (by omega)) (fun h_1 => ?_) (fun h_1 => ?_)
  · refine G_eq (ws' := [(mo, .inr (7, [.ref ma0, .ref ma1, .ref ma2, .int (nI ns), .ref ma4, .ref ma5, .int (nI mlen), .ref ma7, .int (bI gw), .ref ma9, .ref ma10, .ref ma11, .ref ma12, .int (nI mm), .int (nI pl), .ref ma15, .int (nI wm), .long (mxf (fun w => nI (tly w (Rf 0) (Rf 1) (Rf 2) mlen n ns)) (2531 : Int64) 6)])), (ma0, .inl (E.2.1, 15, .inl (aN Nw))), (ma4, .inl (E.2.1, 3, .inl (aN Rf))), (ma7, .inl (E.2.1, 10, .inl (aN S))), (ma9, .inl (E.2.1, 10, .inl (aN Gp))), (ma10, .inl (E.2.1, 10, .inl (aO Tt))), (ma11, .inl (E.2.1, 10, .inl (aO En))), (ma12, .inl (E.2.1, 10, .inl (aN Ev)))]) (by rw [show t6 = 6 by omega]) rfl rfl ?_
    refine G_sel [1] [(0, .ref mo)] rfl ?_
    refine G_aload_n C dX7_digest_30 rfl 31 rfl ?_
    refine G_iconst C dX7_digest_31 (v := oI none) rfl 32 rfl ?_
    refine G_cV C dX7_digest_32 (c_X7_laysFine l E mo ma0 ma1 ma2 ma4 ma5 ma7 ma9 ma10 ma11 ma12 ma15 ns mlen mm pl wm gw (mxf (fun w => nI (tly w (Rf 0) (Rf 1) (Rf 2) mlen n ns)) (2531 : Int64) 6) Nw S ln n none (by first | assumption | omega) (fun g h => by cases h)) wm_X7_108 wi_X7_laysFine wsel_X7_laysFine wn_X7 wc_X7_laysFine rfl rfl ⟨by decide, by decide, rfl⟩ rfl (Nat.le_of_ble_eq_true rfl) 7 rfl rfl 0 rfl [0, 1, 3] [2, 4, 5, 6, 7] (wr := [(ma4, .inl (E.2.1, 3, .inl (aN Rf))), (ma9, .inl (E.2.1, 10, .inl (aN Gp))), (ma10, .inl (E.2.1, 10, .inl (aO Tt))), (ma11, .inl (E.2.1, 10, .inl (aO En))), (ma12, .inl (E.2.1, 10, .inl (aN Ev)))]) rfl rfl rfl rfl rfl [5, 6, 0, 7, 1, 2, 3, 4] rfl [(mo, .inr (7, [.ref ma0, .ref ma1, .ref ma2, .int (nI ns), .ref ma4, .ref ma5, .int (nI mlen), .ref ma7, .int (bI false), .ref ma9, .ref ma10, .ref ma11, .ref ma12, .int (nI mm), .int (nI pl), .ref ma15, .int (nI wm), .long (mxf (fun w => nI (tly w (Rf 0) (Rf 1) (Rf 2) mlen n ns)) (2531 : Int64) 6)])), (ma0, .inl (E.2.1, 15, .inl (aN Nw))), (ma4, .inl (E.2.1, 3, .inl (aN Rf))), (ma7, .inl (E.2.1, 10, .inl (aN (fineC ln n none)))), (ma9, .inl (E.2.1, 10, .inl (aN Gp))), (ma10, .inl (E.2.1, 10, .inl (aO Tt))), (ma11, .inl (E.2.1, 10, .inl (aO En))), (ma12, .inl (E.2.1, 10, .inl (aN Ev)))] rfl rfl [] rfl 35 rfl ?_
    refine G_aload_n C dX7_digest_35 rfl 36 rfl ?_
    refine G_iconst C dX7_digest_36 (v := oI none) rfl 37 rfl ?_
    refine G_cV C dX7_digest_37 (c_X7_laysCoarse l E mo ma0 ma1 ma2 ma4 ma5 ma7 ma9 ma10 ma11 ma12 ma15 ns mlen mm pl wm false (mxf (fun w => nI (tly w (Rf 0) (Rf 1) (Rf 2) mlen n ns)) (2531 : Int64) 6) Nw Gp Tt ln n none (by first | assumption | omega) (fun g h => by cases h)) wm_X7_115 wi_X7_laysCoarse wsel_X7_laysCoarse wn_X7 wc_X7_laysCoarse rfl rfl ⟨by decide, by decide, rfl⟩ rfl (Nat.le_of_ble_eq_true rfl) 7 rfl rfl 0 rfl [0, 1, 4, 5] [2, 3, 6, 7] (wr := [(ma4, .inl (E.2.1, 3, .inl (aN Rf))), (ma7, .inl (E.2.1, 10, .inl (aN (fineC ln n none)))), (ma11, .inl (E.2.1, 10, .inl (aO En))), (ma12, .inl (E.2.1, 10, .inl (aN Ev)))]) rfl rfl rfl rfl rfl [4, 5, 0, 1, 6, 7, 2, 3] rfl [(mo, .inr (7, [.ref ma0, .ref ma1, .ref ma2, .int (nI ns), .ref ma4, .ref ma5, .int (nI mlen), .ref ma7, .int (bI false), .ref ma9, .ref ma10, .ref ma11, .ref ma12, .int (nI mm), .int (nI pl), .ref ma15, .int (nI wm), .long (mxf (fun w => nI (tly w (Rf 0) (Rf 1) (Rf 2) mlen n ns)) (2531 : Int64) 6)])), (ma0, .inl (E.2.1, 15, .inl (aN Nw))), (ma4, .inl (E.2.1, 3, .inl (aN Rf))), (ma7, .inl (E.2.1, 10, .inl (aN (fineC ln n none)))), (ma9, .inl (E.2.1, 10, .inl (aN (coarG ln n none)))), (ma10, .inl (E.2.1, 10, .inl (aO (coarT ln n none)))), (ma11, .inl (E.2.1, 10, .inl (aO En))), (ma12, .inl (E.2.1, 10, .inl (aN Ev)))] rfl rfl [] rfl 40 rfl ?_
    refine G_aload_n C dX7_digest_40 rfl 41 rfl ?_
    refine G_iconst C dX7_digest_41 (v := nI 2) rfl 42 rfl ?_
    refine G_cV C dX7_digest_42 (c_X7_runs l E mo ma0 ma1 ma2 ma4 ma5 ma7 ma9 ma10 ma11 ma12 ma15 ns mlen mm pl wm false (mxf (fun w => nI (tly w (Rf 0) (Rf 1) (Rf 2) mlen n ns)) (2531 : Int64) 6) Nw En Ev ln n 2 (by first | assumption | omega) (by omega)) wm_X7_133 wi_X7_runs wsel_X7_runs wn_X7 wc_X7_runs rfl rfl ⟨by decide, by decide, rfl⟩ rfl (Nat.le_of_ble_eq_true rfl) 7 rfl rfl 0 rfl [0, 1, 6, 7] [2, 3, 4, 5] (wr := [(ma4, .inl (E.2.1, 3, .inl (aN Rf))), (ma7, .inl (E.2.1, 10, .inl (aN (fineC ln n none)))), (ma9, .inl (E.2.1, 10, .inl (aN (coarG ln n none)))), (ma10, .inl (E.2.1, 10, .inl (aO (coarT ln n none))))]) rfl rfl rfl rfl rfl [4, 5, 0, 1, 2, 3, 6, 7] rfl [(mo, .inr (7, [.ref ma0, .ref ma1, .ref ma2, .int (nI ns), .ref ma4, .ref ma5, .int (nI mlen), .ref ma7, .int (bI false), .ref ma9, .ref ma10, .ref ma11, .ref ma12, .int (nI ((rr ln n (2 * n)).2.2)), .int (nI pl), .ref ma15, .int (nI wm), .long (mxf (fun w => nI (tly w (Rf 0) (Rf 1) (Rf 2) mlen n ns)) (2531 : Int64) 6)])), (ma0, .inl (E.2.1, 15, .inl (aN Nw))), (ma4, .inl (E.2.1, 3, .inl (aN Rf))), (ma7, .inl (E.2.1, 10, .inl (aN (fineC ln n none)))), (ma9, .inl (E.2.1, 10, .inl (aN (coarG ln n none)))), (ma10, .inl (E.2.1, 10, .inl (aO (coarT ln n none)))), (ma11, .inl (E.2.1, 10, .inl (aO ((rr ln n (2 * n)).1)))), (ma12, .inl (E.2.1, 10, .inl (aN ((rr ln n (2 * n)).2.1))))] rfl rfl [] rfl 45 rfl ?_
    refine G_iconst C dX7_digest_45 (v := nI 0) rfl 46 rfl ?_
    refine G_istore_n C dX7_digest_46 (by decide) [(1, .int (nI 0)), (0, .ref mo)] rfl 47 rfl ?_
    refine G_while (X := Nat) (Wf := fun k => [(mo, .inr (7, [.ref ma0, .ref ma1, .ref ma2, .int (nI ns), .ref ma4, .ref ma5, .int (nI mlen), .ref ma7, .int (bI false), .ref ma9, .ref ma10, .ref ma11, .ref ma12, .int (nI ((rr ln n (2 * n)).2.2)), .int (nI pl), .ref ma15, .int (nI wm), .long (mxf (fun k => nI (ofD (ln (k / 5)) (fineC ln n none) (k % 5))) (mxf (fun w => nI (tly w (Rf 0) (Rf 1) (Rf 2) mlen n ns)) (2531 : Int64) 6) k)])), (ma0, .inl (E.2.1, 15, .inl (aN Nw))), (ma4, .inl (E.2.1, 3, .inl (aN Rf))), (ma7, .inl (E.2.1, 10, .inl (aN (fineC ln n none)))), (ma9, .inl (E.2.1, 10, .inl (aN (coarG ln n none)))), (ma10, .inl (E.2.1, 10, .inl (aO (coarT ln n none)))), (ma11, .inl (E.2.1, 10, .inl (aO ((rr ln n (2 * n)).1)))), (ma12, .inl (E.2.1, 10, .inl (aN ((rr ln n (2 * n)).2.1))))]) (Lf := fun k => [(1, .int (nI k)), (0, .ref mo)]) (Sf := fun _ => []) (fun k => k ≤ 5 * n) (fun k => 5 * n - k) (fun k hi9 ih9 => ?_) 0 (by omega)
    refine G_iload_n C dX7_digest_47 rfl 48 rfl ?_
    refine G_iconst C dX7_digest_48 (v := nI 5) rfl 49 rfl ?_
    refine G_aload_n C dX7_digest_49 rfl 50 rfl ?_
    refine G_getf C dX7_digest_50 wF_X7 wf_X7_7 (f := 0) (by decide) (ci := 7) rfl 0 rfl rfl 53 rfl ?_
    refine G_iconst C dX7_digest_53 (v := nI 0) rfl 54 rfl ?_
    refine G_ialdN C dX7_digest_54 1 rfl rfl (by omega) 55 rfl ?_
    refine G_top (v' := .int (nI n)) (by rw [hok.z]) ?_
    refine G_imul C dX7_digest_55 (v := nI (5 * n)) (pk_mul _ _) 56 rfl ?_
    refine G_icmp_ge C dX7_digest_56 79 rfl 59 rfl (nI_leI (by omega) (by omega)) (fun h_2 => ?_) (fun h_2 => ?_)
    · refine G_eq (ws' := [(mo, .inr (7, [.ref ma0, .ref ma1, .ref ma2, .int (nI ns), .ref ma4, .ref ma5, .int (nI mlen), .ref ma7, .int (bI false), .ref ma9, .ref ma10, .ref ma11, .ref ma12, .int (nI ((rr ln n (2 * n)).2.2)), .int (nI pl), .ref ma15, .int (nI wm), .long (mxf (fun k => nI (ofD (ln (k / 5)) (fineC ln n none) (k % 5))) (mxf (fun w => nI (tly w (Rf 0) (Rf 1) (Rf 2) mlen n ns)) (2531 : Int64) 6) (5 * n))])), (ma0, .inl (E.2.1, 15, .inl (aN Nw))), (ma4, .inl (E.2.1, 3, .inl (aN Rf))), (ma7, .inl (E.2.1, 10, .inl (aN (fineC ln n none)))), (ma9, .inl (E.2.1, 10, .inl (aN (coarG ln n none)))), (ma10, .inl (E.2.1, 10, .inl (aO (coarT ln n none)))), (ma11, .inl (E.2.1, 10, .inl (aO ((rr ln n (2 * n)).1)))), (ma12, .inl (E.2.1, 10, .inl (aN ((rr ln n (2 * n)).2.1))))]) (by rw [show k = 5 * n by omega]) rfl rfl ?_
      refine G_eq (ws' := [(mo, .inr (7, [.ref ma0, .ref ma1, .ref ma2, .int (nI ns), .ref ma4, .ref ma5, .int (nI mlen), .ref ma7, .int (bI false), .ref ma9, .ref ma10, .ref ma11, .ref ma12, .int (nI ((rr ln n (2 * n)).2.2)), .int (nI pl), .ref ma15, .int (nI wm), .long (mdl ln (fineC ln n none) (mxf (fun w => nI (tly w (Rf 0) (Rf 1) (Rf 2) mlen n ns)) (2531 : Int64) 6) n)])), (ma0, .inl (E.2.1, 15, .inl (aN Nw))), (ma4, .inl (E.2.1, 3, .inl (aN Rf))), (ma7, .inl (E.2.1, 10, .inl (aN (fineC ln n none)))), (ma9, .inl (E.2.1, 10, .inl (aN (coarG ln n none)))), (ma10, .inl (E.2.1, 10, .inl (aO (coarT ln n none)))), (ma11, .inl (E.2.1, 10, .inl (aO ((rr ln n (2 * n)).1)))), (ma12, .inl (E.2.1, 10, .inl (aN ((rr ln n (2 * n)).2.1))))]) (by rw [mdl_flat]) rfl rfl ?_
      refine G_sel [1] [(0, .ref mo)] rfl ?_
      refine G_iconst C dX7_digest_79 (v := nI 0) rfl 80 rfl ?_
      refine G_istore_n C dX7_digest_80 (by decide) [(1, .int (nI 0)), (0, .ref mo)] rfl 81 rfl ?_
      refine G_while (X := Nat) (Wf := fun x => [(mo, .inr (7, [.ref ma0, .ref ma1, .ref ma2, .int (nI ns), .ref ma4, .ref ma5, .int (nI mlen), .ref ma7, .int (bI false), .ref ma9, .ref ma10, .ref ma11, .ref ma12, .int (nI ((rr ln n (2 * n)).2.2)), .int (nI pl), .ref ma15, .int (nI wm), .long (mdn (fineC ln n none) (coarG ln n none) (coarT ln n none) (rr ln n (2 * n)).1 (rr ln n (2 * n)).2.1 (mdl ln (fineC ln n none) (mxf (fun w => nI (tly w (Rf 0) (Rf 1) (Rf 2) mlen n ns)) (2531 : Int64) 6) n) x)])), (ma0, .inl (E.2.1, 15, .inl (aN Nw))), (ma4, .inl (E.2.1, 3, .inl (aN Rf))), (ma7, .inl (E.2.1, 10, .inl (aN (fineC ln n none)))), (ma9, .inl (E.2.1, 10, .inl (aN (coarG ln n none)))), (ma10, .inl (E.2.1, 10, .inl (aO (coarT ln n none)))), (ma11, .inl (E.2.1, 10, .inl (aO ((rr ln n (2 * n)).1)))), (ma12, .inl (E.2.1, 10, .inl (aN ((rr ln n (2 * n)).2.1))))]) (Lf := fun x => [(1, .int (nI x)), (0, .ref mo)]) (Sf := fun _ => []) (fun x => x ≤ 10) (fun x => 10 - x) (fun x hi9 ih9 => ?_) 0 (by omega)
      refine G_iload_n C dX7_digest_81 rfl 82 rfl ?_
      refine G_bipush C dX7_digest_82 (v := nI 10) (by decide) 84 rfl ?_
      refine G_icmp_ge C dX7_digest_84 98 rfl 87 rfl (nI_leI (by omega) (by omega)) (fun h_3 => ?_) (fun h_3 => ?_)
      · refine G_eq (ws' := [(mo, .inr (7, [.ref ma0, .ref ma1, .ref ma2, .int (nI ns), .ref ma4, .ref ma5, .int (nI mlen), .ref ma7, .int (bI false), .ref ma9, .ref ma10, .ref ma11, .ref ma12, .int (nI ((rr ln n (2 * n)).2.2)), .int (nI pl), .ref ma15, .int (nI wm), .long (mdn (fineC ln n none) (coarG ln n none) (coarT ln n none) (rr ln n (2 * n)).1 (rr ln n (2 * n)).2.1 (mdl ln (fineC ln n none) (mxf (fun w => nI (tly w (Rf 0) (Rf 1) (Rf 2) mlen n ns)) (2531 : Int64) 6) n) 10)])), (ma0, .inl (E.2.1, 15, .inl (aN Nw))), (ma4, .inl (E.2.1, 3, .inl (aN Rf))), (ma7, .inl (E.2.1, 10, .inl (aN (fineC ln n none)))), (ma9, .inl (E.2.1, 10, .inl (aN (coarG ln n none)))), (ma10, .inl (E.2.1, 10, .inl (aO (coarT ln n none)))), (ma11, .inl (E.2.1, 10, .inl (aO ((rr ln n (2 * n)).1)))), (ma12, .inl (E.2.1, 10, .inl (aN ((rr ln n (2 * n)).2.1))))]) (by rw [show x = 10 by omega]) rfl rfl ?_
        refine G_sel [1] [(0, .ref mo)] rfl ?_
        refine G_iconst C dX7_digest_98 (v := nI 0) rfl 99 rfl ?_
        refine G_istore_n C dX7_digest_99 (by decide) [(1, .int (nI 0)), (0, .ref mo)] rfl 100 rfl ?_
        refine G_while (X := Nat) (Wf := fun t5 => [(mo, .inr (7, [.ref ma0, .ref ma1, .ref ma2, .int (nI ns), .ref ma4, .ref ma5, .int (nI mlen), .ref ma7, .int (bI false), .ref ma9, .ref ma10, .ref ma11, .ref ma12, .int (nI ((rr ln n (2 * n)).2.2)), .int (nI pl), .ref ma15, .int (nI wm), .long (mxf (fun w => nI (cnd (fineC ln n none) (coarG ln n none) (coarT ln n none) w)) (mdn (fineC ln n none) (coarG ln n none) (coarT ln n none) (rr ln n (2 * n)).1 (rr ln n (2 * n)).2.1 (mdl ln (fineC ln n none) (mxf (fun w => nI (tly w (Rf 0) (Rf 1) (Rf 2) mlen n ns)) (2531 : Int64) 6) n) 10) t5)])), (ma0, .inl (E.2.1, 15, .inl (aN Nw))), (ma4, .inl (E.2.1, 3, .inl (aN Rf))), (ma7, .inl (E.2.1, 10, .inl (aN (fineC ln n none)))), (ma9, .inl (E.2.1, 10, .inl (aN (coarG ln n none)))), (ma10, .inl (E.2.1, 10, .inl (aO (coarT ln n none)))), (ma11, .inl (E.2.1, 10, .inl (aO ((rr ln n (2 * n)).1)))), (ma12, .inl (E.2.1, 10, .inl (aN ((rr ln n (2 * n)).2.1))))]) (Lf := fun t5 => [(1, .int (nI t5)), (0, .ref mo)]) (Sf := fun _ => []) (fun t5 => t5 ≤ 5) (fun t5 => 5 - t5) (fun t5 hi9 ih9 => ?_) 0 (by omega)
        refine G_iload_n C dX7_digest_100 rfl 101 rfl ?_
        refine G_iconst C dX7_digest_101 (v := nI 5) rfl 102 rfl ?_
        refine G_icmp_ge C dX7_digest_102 120 rfl 105 rfl (nI_leI (by omega) (by omega)) (fun h_4 => ?_) (fun h_4 => ?_)
        · refine G_eq (ws' := [(mo, .inr (7, [.ref ma0, .ref ma1, .ref ma2, .int (nI ns), .ref ma4, .ref ma5, .int (nI mlen), .ref ma7, .int (bI false), .ref ma9, .ref ma10, .ref ma11, .ref ma12, .int (nI ((rr ln n (2 * n)).2.2)), .int (nI pl), .ref ma15, .int (nI wm), .long (mxf (fun w => nI (cnd (fineC ln n none) (coarG ln n none) (coarT ln n none) w)) (mdn (fineC ln n none) (coarG ln n none) (coarT ln n none) (rr ln n (2 * n)).1 (rr ln n (2 * n)).2.1 (mdl ln (fineC ln n none) (mxf (fun w => nI (tly w (Rf 0) (Rf 1) (Rf 2) mlen n ns)) (2531 : Int64) 6) n) 10) 5)])), (ma0, .inl (E.2.1, 15, .inl (aN Nw))), (ma4, .inl (E.2.1, 3, .inl (aN Rf))), (ma7, .inl (E.2.1, 10, .inl (aN (fineC ln n none)))), (ma9, .inl (E.2.1, 10, .inl (aN (coarG ln n none)))), (ma10, .inl (E.2.1, 10, .inl (aO (coarT ln n none)))), (ma11, .inl (E.2.1, 10, .inl (aO ((rr ln n (2 * n)).1)))), (ma12, .inl (E.2.1, 10, .inl (aN ((rr ln n (2 * n)).2.1))))]) (by rw [show t5 = 5 by omega]) rfl rfl ?_
          refine G_sel [1] [(0, .ref mo)] rfl ?_
          refine G_aload_n C dX7_digest_120 rfl 121 rfl ?_
          refine G_aload_n C dX7_digest_121 rfl 122 rfl ?_
          refine G_getf C dX7_digest_122 wF_X7 wf_X7_127 (f := 13) (by decide) (ci := 7) rfl 0 rfl rfl 125 rfl ?_
          refine G_cV C dX7_digest_125 (c_X7_mix l E mo ma0 ma1 ma2 ma4 ma5 ma7 ma9 ma10 ma11 ma12 ma15 ns mlen ((rr ln n (2 * n)).2.2) pl wm false (mxf (fun w => nI (cnd (fineC ln n none) (coarG ln n none) (coarT ln n none) w)) (mdn (fineC ln n none) (coarG ln n none) (coarT ln n none) (rr ln n (2 * n)).1 (rr ln n (2 * n)).2.1 (mdl ln (fineC ln n none) (mxf (fun w => nI (tly w (Rf 0) (Rf 1) (Rf 2) mlen n ns)) (2531 : Int64) 6) n) 10) 5) (nI ((rr ln n (2 * n)).2.2)) ) wm_X7_177 wi_X7_mix wsel_X7_mix wn_X7 wc_X7_mix rfl rfl ⟨by decide, by decide, rfl⟩ rfl (Nat.le_of_ble_eq_true rfl) 7 rfl rfl 0 rfl [0] [1, 2, 3, 4, 5, 6, 7] (wr := [(ma0, .inl (E.2.1, 15, .inl (aN Nw))), (ma4, .inl (E.2.1, 3, .inl (aN Rf))), (ma7, .inl (E.2.1, 10, .inl (aN (fineC ln n none)))), (ma9, .inl (E.2.1, 10, .inl (aN (coarG ln n none)))), (ma10, .inl (E.2.1, 10, .inl (aO (coarT ln n none)))), (ma11, .inl (E.2.1, 10, .inl (aO ((rr ln n (2 * n)).1)))), (ma12, .inl (E.2.1, 10, .inl (aN ((rr ln n (2 * n)).2.1))))]) rfl rfl rfl rfl rfl [7, 0, 1, 2, 3, 4, 5, 6] rfl [(mo, .inr (7, [.ref ma0, .ref ma1, .ref ma2, .int (nI ns), .ref ma4, .ref ma5, .int (nI mlen), .ref ma7, .int (bI false), .ref ma9, .ref ma10, .ref ma11, .ref ma12, .int (nI ((rr ln n (2 * n)).2.2)), .int (nI pl), .ref ma15, .int (nI wm), .long (mx (mxf (fun w => nI (cnd (fineC ln n none) (coarG ln n none) (coarT ln n none) w)) (mdn (fineC ln n none) (coarG ln n none) (coarT ln n none) (rr ln n (2 * n)).1 (rr ln n (2 * n)).2.1 (mdl ln (fineC ln n none) (mxf (fun w => nI (tly w (Rf 0) (Rf 1) (Rf 2) mlen n ns)) (2531 : Int64) 6) n) 10) 5) (nI ((rr ln n (2 * n)).2.2)))])), (ma0, .inl (E.2.1, 15, .inl (aN Nw))), (ma4, .inl (E.2.1, 3, .inl (aN Rf))), (ma7, .inl (E.2.1, 10, .inl (aN (fineC ln n none)))), (ma9, .inl (E.2.1, 10, .inl (aN (coarG ln n none)))), (ma10, .inl (E.2.1, 10, .inl (aO (coarT ln n none)))), (ma11, .inl (E.2.1, 10, .inl (aO ((rr ln n (2 * n)).1)))), (ma12, .inl (E.2.1, 10, .inl (aN ((rr ln n (2 * n)).2.1))))] rfl rfl [] rfl 128 rfl ?_
          refine G_aload_n C dX7_digest_128 rfl 129 rfl ?_
          refine G_getf C dX7_digest_129 wF_X7 wf_X7_173 (f := 17) (by decide) (ci := 7) rfl 0 rfl rfl 132 rfl ?_
          exact G_lret C hr dX7_digest_132 () trivial rfl rfl
        · refine G_aload_n C dX7_digest_105 rfl 106 rfl ?_
          refine G_aload_n C dX7_digest_106 rfl 107 rfl ?_
          refine G_iload_n C dX7_digest_107 rfl 108 rfl ?_
          refine G_cV C dX7_digest_108 (c_X7_countOf l E mo ma0 ma1 ma2 ma4 ma5 ma7 ma9 ma10 ma11 ma12 ma15 ns mlen ((rr ln n (2 * n)).2.2) pl wm false (mxf (fun w => nI (cnd (fineC ln n none) (coarG ln n none) (coarT ln n none) w)) (mdn (fineC ln n none) (coarG ln n none) (coarT ln n none) (rr ln n (2 * n)).1 (rr ln n (2 * n)).2.1 (mdl ln (fineC ln n none) (mxf (fun w => nI (tly w (Rf 0) (Rf 1) (Rf 2) mlen n ns)) (2531 : Int64) 6) n) 10) t5) Nw (fineC ln n none) (coarG ln n none) (coarT ln n none) ln n t5 (by first | assumption | omega) (by first | assumption | omega)) wm_X7_124 wi_X7_countOf wsel_X7_countOf wn_X7 wc_X7_countOf rfl rfl ⟨by decide, by decide, rfl⟩ rfl (Nat.le_of_ble_eq_true rfl) 7 rfl rfl 0 rfl [0, 1, 3, 4, 5] [2, 6, 7] (wr := [(ma4, .inl (E.2.1, 3, .inl (aN Rf))), (ma11, .inl (E.2.1, 10, .inl (aO ((rr ln n (2 * n)).1)))), (ma12, .inl (E.2.1, 10, .inl (aN ((rr ln n (2 * n)).2.1))))]) rfl rfl rfl rfl rfl [3, 4, 0, 5, 6, 7, 1, 2] rfl [(mo, .inr (7, [.ref ma0, .ref ma1, .ref ma2, .int (nI ns), .ref ma4, .ref ma5, .int (nI mlen), .ref ma7, .int (bI false), .ref ma9, .ref ma10, .ref ma11, .ref ma12, .int (nI ((rr ln n (2 * n)).2.2)), .int (nI pl), .ref ma15, .int (nI wm), .long (mxf (fun w => nI (cnd (fineC ln n none) (coarG ln n none) (coarT ln n none) w)) (mdn (fineC ln n none) (coarG ln n none) (coarT ln n none) (rr ln n (2 * n)).1 (rr ln n (2 * n)).2.1 (mdl ln (fineC ln n none) (mxf (fun w => nI (tly w (Rf 0) (Rf 1) (Rf 2) mlen n ns)) (2531 : Int64) 6) n) 10) t5)])), (ma0, .inl (E.2.1, 15, .inl (aN Nw))), (ma4, .inl (E.2.1, 3, .inl (aN Rf))), (ma7, .inl (E.2.1, 10, .inl (aN (fineC ln n none)))), (ma9, .inl (E.2.1, 10, .inl (aN (coarG ln n none)))), (ma10, .inl (E.2.1, 10, .inl (aO (coarT ln n none)))), (ma11, .inl (E.2.1, 10, .inl (aO ((rr ln n (2 * n)).1)))), (ma12, .inl (E.2.1, 10, .inl (aN ((rr ln n (2 * n)).2.1))))] rfl rfl [.int (nI (cnd (fineC ln n none) (coarG ln n none) (coarT ln n none) t5)), .ref mo] rfl 111 rfl ?_
          refine G_cV C dX7_digest_111 (c_X7_mix l E mo ma0 ma1 ma2 ma4 ma5 ma7 ma9 ma10 ma11 ma12 ma15 ns mlen ((rr ln n (2 * n)).2.2) pl wm false (mxf (fun w => nI (cnd (fineC ln n none) (coarG ln n none) (coarT ln n none) w)) (mdn (fineC ln n none) (coarG ln n none) (coarT ln n none) (rr ln n (2 * n)).1 (rr ln n (2 * n)).2.1 (mdl ln (fineC ln n none) (mxf (fun w => nI (tly w (Rf 0) (Rf 1) (Rf 2) mlen n ns)) (2531 : Int64) 6) n) 10) t5) (nI (cnd (fineC ln n none) (coarG ln n none) (coarT ln n none) t5)) ) wm_X7_177 wi_X7_mix wsel_X7_mix wn_X7 wc_X7_mix rfl rfl ⟨by decide, by decide, rfl⟩ rfl (Nat.le_of_ble_eq_true rfl) 7 rfl rfl 0 rfl [0] [1, 2, 3, 4, 5, 6, 7] (wr := [(ma0, .inl (E.2.1, 15, .inl (aN Nw))), (ma4, .inl (E.2.1, 3, .inl (aN Rf))), (ma7, .inl (E.2.1, 10, .inl (aN (fineC ln n none)))), (ma9, .inl (E.2.1, 10, .inl (aN (coarG ln n none)))), (ma10, .inl (E.2.1, 10, .inl (aO (coarT ln n none)))), (ma11, .inl (E.2.1, 10, .inl (aO ((rr ln n (2 * n)).1)))), (ma12, .inl (E.2.1, 10, .inl (aN ((rr ln n (2 * n)).2.1))))]) rfl rfl rfl rfl rfl [7, 0, 1, 2, 3, 4, 5, 6] rfl [(mo, .inr (7, [.ref ma0, .ref ma1, .ref ma2, .int (nI ns), .ref ma4, .ref ma5, .int (nI mlen), .ref ma7, .int (bI false), .ref ma9, .ref ma10, .ref ma11, .ref ma12, .int (nI ((rr ln n (2 * n)).2.2)), .int (nI pl), .ref ma15, .int (nI wm), .long (mx (mxf (fun w => nI (cnd (fineC ln n none) (coarG ln n none) (coarT ln n none) w)) (mdn (fineC ln n none) (coarG ln n none) (coarT ln n none) (rr ln n (2 * n)).1 (rr ln n (2 * n)).2.1 (mdl ln (fineC ln n none) (mxf (fun w => nI (tly w (Rf 0) (Rf 1) (Rf 2) mlen n ns)) (2531 : Int64) 6) n) 10) t5) (nI (cnd (fineC ln n none) (coarG ln n none) (coarT ln n none) t5)))])), (ma0, .inl (E.2.1, 15, .inl (aN Nw))), (ma4, .inl (E.2.1, 3, .inl (aN Rf))), (ma7, .inl (E.2.1, 10, .inl (aN (fineC ln n none)))), (ma9, .inl (E.2.1, 10, .inl (aN (coarG ln n none)))), (ma10, .inl (E.2.1, 10, .inl (aO (coarT ln n none)))), (ma11, .inl (E.2.1, 10, .inl (aO ((rr ln n (2 * n)).1)))), (ma12, .inl (E.2.1, 10, .inl (aN ((rr ln n (2 * n)).2.1))))] rfl rfl [] rfl 114 rfl ?_
          refine G_iinc C dX7_digest_114 0 rfl (nI_1 _) (by decide) [(1, .int (nI (t5 + 1))), (0, .ref mo)] rfl 117 rfl ?_
          refine G_goto C dX7_digest_117 100 rfl ?_
          exact ih9 (t5 + 1) (by omega) (by omega)
      · refine G_aload_n C dX7_digest_87 rfl 88 rfl ?_
        refine G_iload_n C dX7_digest_88 rfl 89 rfl ?_
        refine G_cV C dX7_digest_89 (c_X7_mixName l E mo ma0 ma1 ma2 ma4 ma5 ma7 ma9 ma10 ma11 ma12 ma15 ns mlen ((rr ln n (2 * n)).2.2) pl wm false (mdn (fineC ln n none) (coarG ln n none) (coarT ln n none) (rr ln n (2 * n)).1 (rr ln n (2 * n)).2.1 (mdl ln (fineC ln n none) (mxf (fun w => nI (tly w (Rf 0) (Rf 1) (Rf 2) mlen n ns)) (2531 : Int64) 6) n) x) (fineC ln n none) (coarG ln n none) (coarT ln n none) ((rr ln n (2 * n)).1) ((rr ln n (2 * n)).2.1) x (cok_cit 21).1 (cok_cit 21).2 (by first | assumption | omega)) wm_X7_182 wi_X7_mixName wsel_X7_mixName wn_X7 wc_X7_mixName rfl rfl ⟨by decide, by decide, rfl⟩ rfl (Nat.le_of_ble_eq_true rfl) 7 rfl rfl 0 rfl [0, 3, 4, 5, 6, 7] [1, 2] (wr := [(ma0, .inl (E.2.1, 15, .inl (aN Nw))), (ma4, .inl (E.2.1, 3, .inl (aN Rf)))]) rfl rfl rfl rfl rfl [2, 0, 1, 3, 4, 5, 6, 7] rfl [(mo, .inr (7, [.ref ma0, .ref ma1, .ref ma2, .int (nI ns), .ref ma4, .ref ma5, .int (nI mlen), .ref ma7, .int (bI false), .ref ma9, .ref ma10, .ref ma11, .ref ma12, .int (nI ((rr ln n (2 * n)).2.2)), .int (nI pl), .ref ma15, .int (nI wm), .long (mxn (fineC ln n none) (coarG ln n none) (coarT ln n none) ((rr ln n (2 * n)).1) ((rr ln n (2 * n)).2.1) (mdn (fineC ln n none) (coarG ln n none) (coarT ln n none) (rr ln n (2 * n)).1 (rr ln n (2 * n)).2.1 (mdl ln (fineC ln n none) (mxf (fun w => nI (tly w (Rf 0) (Rf 1) (Rf 2) mlen n ns)) (2531 : Int64) 6) n) x) x)])), (ma0, .inl (E.2.1, 15, .inl (aN Nw))), (ma4, .inl (E.2.1, 3, .inl (aN Rf))), (ma7, .inl (E.2.1, 10, .inl (aN (fineC ln n none)))), (ma9, .inl (E.2.1, 10, .inl (aN (coarG ln n none)))), (ma10, .inl (E.2.1, 10, .inl (aO (coarT ln n none)))), (ma11, .inl (E.2.1, 10, .inl (aO ((rr ln n (2 * n)).1)))), (ma12, .inl (E.2.1, 10, .inl (aN ((rr ln n (2 * n)).2.1))))] rfl rfl [] rfl 92 rfl ?_
        refine G_iinc C dX7_digest_92 0 rfl (nI_1 _) (by decide) [(1, .int (nI (x + 1))), (0, .ref mo)] rfl 95 rfl ?_
        refine G_goto C dX7_digest_95 81 rfl ?_
        exact ih9 (x + 1) (by omega) (by omega)
    · refine G_aload_n C dX7_digest_59 rfl 60 rfl ?_
      refine G_aload_n C dX7_digest_60 rfl 61 rfl ?_
      refine G_iload_n C dX7_digest_61 rfl 62 rfl ?_
      refine G_iconst C dX7_digest_62 (v := nI 5) rfl 63 rfl ?_
      refine G_idiv C dX7_digest_63 (by decide) (v := nI (k / 5)) (pk_div (by omega) (by decide) (by decide)) 64 rfl ?_
      refine G_iload_n C dX7_digest_64 rfl 65 rfl ?_
      refine G_iconst C dX7_digest_65 (v := nI 5) rfl 66 rfl ?_
      refine G_irem C dX7_digest_66 (by decide) (v := nI (k % 5)) (pk_rem (by omega) (by decide) (by decide)) 67 rfl ?_
      refine G_cV C dX7_digest_67 (c_X7_ofLine l E mo ma0 ma1 ma2 ma4 ma5 ma7 ma9 ma10 ma11 ma12 ma15 ns mlen ((rr ln n (2 * n)).2.2) pl wm false (mxf (fun k => nI (ofD (ln (k / 5)) (fineC ln n none) (k % 5))) (mxf (fun w => nI (tly w (Rf 0) (Rf 1) (Rf 2) mlen n ns)) (2531 : Int64) 6) k) Nw (fineC ln n none) (k / 5) (ln (k / 5)) (k % 5) (by omega) (hok.c (by omega)) (hok.v (by omega)) (by first | assumption | omega)) wm_X7_111 wi_X7_ofLine wsel_X7_ofLine wn_X7 wc_X7_ofLine rfl rfl ⟨by decide, by decide, rfl⟩ rfl (Nat.le_of_ble_eq_true rfl) 7 rfl rfl 0 rfl [0, 1, 3] [2, 4, 5, 6, 7] (wr := [(ma4, .inl (E.2.1, 3, .inl (aN Rf))), (ma9, .inl (E.2.1, 10, .inl (aN (coarG ln n none)))), (ma10, .inl (E.2.1, 10, .inl (aO (coarT ln n none)))), (ma11, .inl (E.2.1, 10, .inl (aO ((rr ln n (2 * n)).1)))), (ma12, .inl (E.2.1, 10, .inl (aN ((rr ln n (2 * n)).2.1))))]) rfl rfl rfl rfl rfl [5, 6, 0, 7, 1, 2, 3, 4] rfl [(mo, .inr (7, [.ref ma0, .ref ma1, .ref ma2, .int (nI ns), .ref ma4, .ref ma5, .int (nI mlen), .ref ma7, .int (bI false), .ref ma9, .ref ma10, .ref ma11, .ref ma12, .int (nI ((rr ln n (2 * n)).2.2)), .int (nI pl), .ref ma15, .int (nI wm), .long (mxf (fun k => nI (ofD (ln (k / 5)) (fineC ln n none) (k % 5))) (mxf (fun w => nI (tly w (Rf 0) (Rf 1) (Rf 2) mlen n ns)) (2531 : Int64) 6) k)])), (ma0, .inl (E.2.1, 15, .inl (aN Nw))), (ma4, .inl (E.2.1, 3, .inl (aN Rf))), (ma7, .inl (E.2.1, 10, .inl (aN (fineC ln n none)))), (ma9, .inl (E.2.1, 10, .inl (aN (coarG ln n none)))), (ma10, .inl (E.2.1, 10, .inl (aO (coarT ln n none)))), (ma11, .inl (E.2.1, 10, .inl (aO ((rr ln n (2 * n)).1)))), (ma12, .inl (E.2.1, 10, .inl (aN ((rr ln n (2 * n)).2.1))))] rfl rfl [.int (nI (ofD (ln (k / 5)) (fineC ln n none) (k % 5))), .ref mo] rfl 70 rfl ?_
      refine G_cV C dX7_digest_70 (c_X7_mix l E mo ma0 ma1 ma2 ma4 ma5 ma7 ma9 ma10 ma11 ma12 ma15 ns mlen ((rr ln n (2 * n)).2.2) pl wm false (mxf (fun k => nI (ofD (ln (k / 5)) (fineC ln n none) (k % 5))) (mxf (fun w => nI (tly w (Rf 0) (Rf 1) (Rf 2) mlen n ns)) (2531 : Int64) 6) k) (nI (ofD (ln (k / 5)) (fineC ln n none) (k % 5))) ) wm_X7_177 wi_X7_mix wsel_X7_mix wn_X7 wc_X7_mix rfl rfl ⟨by decide, by decide, rfl⟩ rfl (Nat.le_of_ble_eq_true rfl) 7 rfl rfl 0 rfl [0] [1, 2, 3, 4, 5, 6, 7] (wr := [(ma0, .inl (E.2.1, 15, .inl (aN Nw))), (ma4, .inl (E.2.1, 3, .inl (aN Rf))), (ma7, .inl (E.2.1, 10, .inl (aN (fineC ln n none)))), (ma9, .inl (E.2.1, 10, .inl (aN (coarG ln n none)))), (ma10, .inl (E.2.1, 10, .inl (aO (coarT ln n none)))), (ma11, .inl (E.2.1, 10, .inl (aO ((rr ln n (2 * n)).1)))), (ma12, .inl (E.2.1, 10, .inl (aN ((rr ln n (2 * n)).2.1))))]) rfl rfl rfl rfl rfl [7, 0, 1, 2, 3, 4, 5, 6] rfl [(mo, .inr (7, [.ref ma0, .ref ma1, .ref ma2, .int (nI ns), .ref ma4, .ref ma5, .int (nI mlen), .ref ma7, .int (bI false), .ref ma9, .ref ma10, .ref ma11, .ref ma12, .int (nI ((rr ln n (2 * n)).2.2)), .int (nI pl), .ref ma15, .int (nI wm), .long (mx (mxf (fun k => nI (ofD (ln (k / 5)) (fineC ln n none) (k % 5))) (mxf (fun w => nI (tly w (Rf 0) (Rf 1) (Rf 2) mlen n ns)) (2531 : Int64) 6) k) (nI (ofD (ln (k / 5)) (fineC ln n none) (k % 5))))])), (ma0, .inl (E.2.1, 15, .inl (aN Nw))), (ma4, .inl (E.2.1, 3, .inl (aN Rf))), (ma7, .inl (E.2.1, 10, .inl (aN (fineC ln n none)))), (ma9, .inl (E.2.1, 10, .inl (aN (coarG ln n none)))), (ma10, .inl (E.2.1, 10, .inl (aO (coarT ln n none)))), (ma11, .inl (E.2.1, 10, .inl (aO ((rr ln n (2 * n)).1)))), (ma12, .inl (E.2.1, 10, .inl (aN ((rr ln n (2 * n)).2.1))))] rfl rfl [] rfl 73 rfl ?_
      refine G_iinc C dX7_digest_73 0 rfl (nI_1 _) (by decide) [(1, .int (nI (k + 1))), (0, .ref mo)] rfl 76 rfl ?_
      refine G_goto C dX7_digest_76 47 rfl ?_
      exact ih9 (k + 1) (by omega) (by omega)
  · refine G_aload_n C dX7_digest_15 rfl 16 rfl ?_
    refine G_aload_n C dX7_digest_16 rfl 17 rfl ?_
    refine G_iload_n C dX7_digest_17 rfl 18 rfl ?_
    refine G_cV C dX7_digest_18 (c_X7_toldOf l E mo ma0 ma1 ma2 ma4 ma5 ma7 ma9 ma10 ma11 ma12 ma15 ns mlen mm pl wm gw (mxf (fun w => nI (tly w (Rf 0) (Rf 1) (Rf 2) mlen n ns)) (2531 : Int64) t6) Nw Rf n t6 hok.z (by first | assumption | omega)) wm_X7_168 wi_X7_toldOf wsel_X7_toldOf wn_X7 wc_X7_toldOf rfl rfl ⟨by decide, by decide, rfl⟩ rfl (Nat.le_of_ble_eq_true rfl) 7 rfl rfl 0 rfl [0, 1, 2] [3, 4, 5, 6, 7] (wr := [(ma7, .inl (E.2.1, 10, .inl (aN S))), (ma9, .inl (E.2.1, 10, .inl (aN Gp))), (ma10, .inl (E.2.1, 10, .inl (aO Tt))), (ma11, .inl (E.2.1, 10, .inl (aO En))), (ma12, .inl (E.2.1, 10, .inl (aN Ev)))]) rfl rfl rfl rfl rfl [5, 6, 7, 0, 1, 2, 3, 4] rfl [(mo, .inr (7, [.ref ma0, .ref ma1, .ref ma2, .int (nI ns), .ref ma4, .ref ma5, .int (nI mlen), .ref ma7, .int (bI gw), .ref ma9, .ref ma10, .ref ma11, .ref ma12, .int (nI mm), .int (nI pl), .ref ma15, .int (nI wm), .long (mxf (fun w => nI (tly w (Rf 0) (Rf 1) (Rf 2) mlen n ns)) (2531 : Int64) t6)])), (ma0, .inl (E.2.1, 15, .inl (aN Nw))), (ma4, .inl (E.2.1, 3, .inl (aN Rf))), (ma7, .inl (E.2.1, 10, .inl (aN S))), (ma9, .inl (E.2.1, 10, .inl (aN Gp))), (ma10, .inl (E.2.1, 10, .inl (aO Tt))), (ma11, .inl (E.2.1, 10, .inl (aO En))), (ma12, .inl (E.2.1, 10, .inl (aN Ev)))] rfl rfl [.int (nI (tly t6 (Rf 0) (Rf 1) (Rf 2) mlen n ns)), .ref mo] rfl 21 rfl ?_
    refine G_cV C dX7_digest_21 (c_X7_mix l E mo ma0 ma1 ma2 ma4 ma5 ma7 ma9 ma10 ma11 ma12 ma15 ns mlen mm pl wm gw (mxf (fun w => nI (tly w (Rf 0) (Rf 1) (Rf 2) mlen n ns)) (2531 : Int64) t6) (nI (tly t6 (Rf 0) (Rf 1) (Rf 2) mlen n ns)) ) wm_X7_177 wi_X7_mix wsel_X7_mix wn_X7 wc_X7_mix rfl rfl ⟨by decide, by decide, rfl⟩ rfl (Nat.le_of_ble_eq_true rfl) 7 rfl rfl 0 rfl [0] [1, 2, 3, 4, 5, 6, 7] (wr := [(ma0, .inl (E.2.1, 15, .inl (aN Nw))), (ma4, .inl (E.2.1, 3, .inl (aN Rf))), (ma7, .inl (E.2.1, 10, .inl (aN S))), (ma9, .inl (E.2.1, 10, .inl (aN Gp))), (ma10, .inl (E.2.1, 10, .inl (aO Tt))), (ma11, .inl (E.2.1, 10, .inl (aO En))), (ma12, .inl (E.2.1, 10, .inl (aN Ev)))]) rfl rfl rfl rfl rfl [7, 0, 1, 2, 3, 4, 5, 6] rfl [(mo, .inr (7, [.ref ma0, .ref ma1, .ref ma2, .int (nI ns), .ref ma4, .ref ma5, .int (nI mlen), .ref ma7, .int (bI gw), .ref ma9, .ref ma10, .ref ma11, .ref ma12, .int (nI mm), .int (nI pl), .ref ma15, .int (nI wm), .long (mx (mxf (fun w => nI (tly w (Rf 0) (Rf 1) (Rf 2) mlen n ns)) (2531 : Int64) t6) (nI (tly t6 (Rf 0) (Rf 1) (Rf 2) mlen n ns)))])), (ma0, .inl (E.2.1, 15, .inl (aN Nw))), (ma4, .inl (E.2.1, 3, .inl (aN Rf))), (ma7, .inl (E.2.1, 10, .inl (aN S))), (ma9, .inl (E.2.1, 10, .inl (aN Gp))), (ma10, .inl (E.2.1, 10, .inl (aO Tt))), (ma11, .inl (E.2.1, 10, .inl (aO En))), (ma12, .inl (E.2.1, 10, .inl (aN Ev)))] rfl rfl [] rfl 24 rfl ?_
    refine G_iinc C dX7_digest_24 0 rfl (nI_1 _) (by decide) [(1, .int (nI (t6 + 1))), (0, .ref mo)] rfl 27 rfl ?_
    refine G_goto C dX7_digest_27 9 rfl ?_
    exact ih9 (t6 + 1) (by omega) (by omega)
