/-! ===== CASES OF THE LAW (printed by wip/gen/law.py) ===== -/
section V1
variable {p : Program} {l : Launch} {e : Jvm.Env} {s : State} {m : MethodId} {below : List Frame} {meth : Method} {c : Code} {Q : State → Prop} {D : va_G} {cid : Nat → ClassId} {eP : Nat → Option Nat} {eI : Nat → Nat → Int32} {Od : State → Prop} {b L : Nat} {xs : Nat → Int32} {ca a out j : Nat} {σ : Mm} {μ : Ms} {ls : Array Slot} {H : Heap} {locs : List Loc} {cells slots : Nat}
theorem cs_8 (hL : Lw p l s m c D cid eP eI Od b L xs) (hI : Li D cid eP eI s b ca a out j σ μ ls H locs) (hj : 9 * j + 9 ≤ L) (hc : cells + 9 ≤ 601024) (hs : slots + 110 ≤ 7293034) (kk : Kn p l e s m below meth c Q D cid eP eI b ca a out j cells slots) : W p l e room_1 s m #[.ref b] below meth c H locs cells slots Q (F0 m 638 ls []) := by
  obtain ⟨hls, hv, hW, hS, hok, hon⟩ := id hI
  obtain ⟨v, σ1, μ', r1, r2, hv', n1, n2⟩ := ok_feed (xs (9 * j + 1)) (xs (9 * j + 2)) (xs (9 * j + 3)) (xs (9 * j + 4)) (xs (9 * j + 5)) 0 σ ca a μ hv
  obtain ⟨x, rfl⟩ := (runc_ky r1).2 kc_C_feed.rt
  refine lv_aload_n hL.1.1 hL.1.2.1 dl_638 rfl (lv_at hls 2 rfl) ?_
  refine lc_ld hL hls hS (i := 1) (by decide) hj rfl dl_639 dl_640 dl_642 dl_643 dl_644 ?_
  refine lc_ld hL hls hS (i := 2) (by decide) hj rfl dl_645 dl_646 dl_648 dl_649 dl_650 ?_
  refine lc_ld hL hls hS (i := 3) (by decide) hj rfl dl_651 dl_652 dl_654 dl_655 dl_656 ?_
  refine lc_ld hL hls hS (i := 4) (by decide) hj rfl dl_657 dl_658 dl_660 dl_661 dl_662 ?_
  refine lc_ld hL hls hS (i := 5) (by decide) hj rfl dl_663 dl_664 dl_666 dl_667 dl_668 ?_
  refine lc_call hL (ys := [xs (9 * j + 1), xs (9 * j + 2), xs (9 * j + 3), xs (9 * j + 4), xs (9 * j + 5)]) kc_C_feed hW hS hls.1 (by decide) (inv_ca hv) (by decide) r1 (num1 hc hs n1 n2) rfl dl_669 (fun H1 locs1 hW1 hS1 => ?_)
  refine lv_aload_n hL.1.1 hL.1.2.1 dl_672 rfl (lv_at hls 3 rfl) ?_
  refine lc_ld hL hls hS1 (i := 1) (by decide) hj rfl dl_673 dl_674 dl_676 dl_677 dl_678 ?_
  refine lc_ld hL hls hS1 (i := 2) (by decide) hj rfl dl_679 dl_680 dl_682 dl_683 dl_684 ?_
  refine lc_ld hL hls hS1 (i := 3) (by decide) hj rfl dl_685 dl_686 dl_688 dl_689 dl_690 ?_
  refine lc_ld hL hls hS1 (i := 4) (by decide) hj rfl dl_691 dl_692 dl_694 dl_695 dl_696 ?_
  refine lc_ld hL hls hS1 (i := 5) (by decide) hj rfl dl_697 dl_698 dl_700 dl_701 dl_702 ?_
  refine lc_call hL (ys := [xs (9 * j + 1), xs (9 * j + 2), xs (9 * j + 3), xs (9 * j + 4), xs (9 * j + 5)]) kc_M_feed hW1 hS1 hls.1 (by decide) (inv_a1 hv r1) (Nat.le_of_ble_eq_true rfl) r2 (num2 hc hs n1 n2 rfl rfl) rfl dl_703 (fun H2 locs2 hW2 hS2 => ?_)
  refine lv_icmp_eq hL.1.1 hL.1.2.1 dl_706 (tgt := 1512) (by decide) (fun _ => ?_) (fun h => absurd rfl h)
  exact W.widen (num3 n1 rfl) (num4 n2 rfl) (kk ls _ μ' H2 locs2 (li_next hI r1 r2 hv' hW2 hS2))
theorem cs_9 (hL : Lw p l s m c D cid eP eI Od b L xs) (hI : Li D cid eP eI s b ca a out j σ μ ls H locs) (hj : 9 * j + 9 ≤ L) (hc : cells + 9 ≤ 601024) (hs : slots + 110 ≤ 7293034) (kk : Kn p l e s m below meth c Q D cid eP eI b ca a out j cells slots) : W p l e room_1 s m #[.ref b] below meth c H locs cells slots Q (F0 m 711 ls []) := by
  obtain ⟨hls, hv, hW, hS, hok, hon⟩ := id hI
  obtain ⟨v, σ1, μ', r1, r2, hv', n1, n2⟩ := ok_end (xs (9 * j + 1)) 0 σ ca a μ hv
  obtain ⟨x, rfl⟩ := (runc_ky r1).2 kc_C_end.rt
  refine lv_aload_n hL.1.1 hL.1.2.1 dl_711 rfl (lv_at hls 2 rfl) ?_
  refine lc_ld hL hls hS (i := 1) (by decide) hj rfl dl_712 dl_713 dl_715 dl_716 dl_717 ?_
  refine lc_call hL (ys := [xs (9 * j + 1)]) kc_C_end hW hS hls.1 (by decide) (inv_ca hv) (by decide) r1 (num1 hc hs n1 n2) rfl dl_718 (fun H1 locs1 hW1 hS1 => ?_)
  refine lv_aload_n hL.1.1 hL.1.2.1 dl_721 rfl (lv_at hls 3 rfl) ?_
  refine lc_ld hL hls hS1 (i := 1) (by decide) hj rfl dl_722 dl_723 dl_725 dl_726 dl_727 ?_
  refine lc_call hL (ys := [xs (9 * j + 1)]) kc_M_end hW1 hS1 hls.1 (by decide) (inv_a1 hv r1) (Nat.le_of_ble_eq_true rfl) r2 (num2 hc hs n1 n2 rfl rfl) rfl dl_728 (fun H2 locs2 hW2 hS2 => ?_)
  refine lv_icmp_eq hL.1.1 hL.1.2.1 dl_731 (tgt := 1512) (by decide) (fun _ => ?_) (fun h => absurd rfl h)
  exact W.widen (num3 n1 rfl) (num4 n2 rfl) (kk ls _ μ' H2 locs2 (li_next hI r1 r2 hv' hW2 hS2))
theorem cs_10 (hL : Lw p l s m c D cid eP eI Od b L xs) (hI : Li D cid eP eI s b ca a out j σ μ ls H locs) (hj : 9 * j + 9 ≤ L) (hc : cells + 9 ≤ 601024) (hs : slots + 110 ≤ 7293034) (kk : Kn p l e s m below meth c Q D cid eP eI b ca a out j cells slots) : W p l e room_1 s m #[.ref b] below meth c H locs cells slots Q (F0 m 736 ls []) := by
  obtain ⟨hls, hv, hW, hS, hok, hon⟩ := id hI
  obtain ⟨z0, adK, hE⟩ := hL.2.2.2.2.2.2.2.2
  obtain ⟨v, σ1, μ', r1, r2, hv', n1, n2⟩ := ok_rules 0 σ ca a μ hv (sg_of hE hW)
  obtain ⟨x, rfl⟩ := (runc_ky r1).2 kc_C_rules.rt
  refine lv_aload_n hL.1.1 hL.1.2.1 dl_736 rfl (lv_at hls 2 rfl) ?_
  refine lc_call hL (ys := []) kc_C_rules hW hS hls.1 (by decide) (inv_ca hv) (by decide) r1 (num1 hc hs n1 n2) rfl dl_737 (fun H1 locs1 hW1 hS1 => ?_)
  refine lv_aload_n hL.1.1 hL.1.2.1 dl_740 rfl (lv_at hls 3 rfl) ?_
  refine lc_call hL (ys := []) kc_M_rules hW1 hS1 hls.1 (by decide) (inv_a1 hv r1) (Nat.le_of_ble_eq_true rfl) r2 (num2 hc hs n1 n2 rfl rfl) rfl dl_741 (fun H2 locs2 hW2 hS2 => ?_)
  refine lv_icmp_eq hL.1.1 hL.1.2.1 dl_744 (tgt := 1512) (by decide) (fun _ => ?_) (fun h => absurd rfl h)
  exact W.widen (num3 n1 rfl) (num4 n2 rfl) (kk ls _ μ' H2 locs2 (li_next hI r1 r2 hv' hW2 hS2))
theorem cs_11 (hL : Lw p l s m c D cid eP eI Od b L xs) (hI : Li D cid eP eI s b ca a out j σ μ ls H locs) (hj : 9 * j + 9 ≤ L) (hc : cells + 9 ≤ 601024) (hs : slots + 110 ≤ 7293034) (kk : Kn p l e s m below meth c Q D cid eP eI b ca a out j cells slots) : W p l e room_1 s m #[.ref b] below meth c H locs cells slots Q (F0 m 749 ls []) := by
  obtain ⟨hls, hv, hW, hS, hok, hon⟩ := id hI
  obtain ⟨v, σ1, μ', r1, r2, hv', n1, n2⟩ := ok_barred (xs (9 * j + 1)) (bz (xs (9 * j + 2))) (bz_01 _) 0 σ ca a μ hv
  obtain ⟨x, rfl⟩ := (runc_ky r1).2 kc_C_barred.rt
  refine lv_aload_n hL.1.1 hL.1.2.1 dl_749 rfl (lv_at hls 2 rfl) ?_
  refine lc_ld hL hls hS (i := 1) (by decide) hj rfl dl_750 dl_751 dl_753 dl_754 dl_755 ?_
  refine lc_ld hL hls hS (i := 2) (by decide) hj rfl dl_756 dl_757 dl_759 dl_760 dl_761 ?_
  refine lw_bz hL.1.1 hL.1.2.1 dl_762 dl_765 dl_766 dl_769 (t1 := 769) (t2 := 770) rfl rfl ?_
  refine lc_call hL (ys := [xs (9 * j + 1), bz (xs (9 * j + 2))]) kc_C_barred hW hS hls.1 (by decide) (inv_ca hv) (by decide) r1 (num1 hc hs n1 n2) rfl dl_770 (fun H1 locs1 hW1 hS1 => ?_)
  refine lv_aload_n hL.1.1 hL.1.2.1 dl_773 rfl (lv_at hls 3 rfl) ?_
  refine lc_ld hL hls hS1 (i := 1) (by decide) hj rfl dl_774 dl_775 dl_777 dl_778 dl_779 ?_
  refine lc_ld hL hls hS1 (i := 2) (by decide) hj rfl dl_780 dl_781 dl_783 dl_784 dl_785 ?_
  refine lw_bz hL.1.1 hL.1.2.1 dl_786 dl_789 dl_790 dl_793 (t1 := 793) (t2 := 794) rfl rfl ?_
  refine lc_call hL (ys := [xs (9 * j + 1), bz (xs (9 * j + 2))]) kc_M_barred hW1 hS1 hls.1 (by decide) (inv_a1 hv r1) (Nat.le_of_ble_eq_true rfl) r2 (num2 hc hs n1 n2 rfl rfl) rfl dl_794 (fun H2 locs2 hW2 hS2 => ?_)
  refine lv_icmp_eq hL.1.1 hL.1.2.1 dl_797 (tgt := 1512) (by decide) (fun _ => ?_) (fun h => absurd rfl h)
  exact W.widen (num3 n1 rfl) (num4 n2 rfl) (kk ls _ μ' H2 locs2 (li_next hI r1 r2 hv' hW2 hS2))
theorem cs_12 (hL : Lw p l s m c D cid eP eI Od b L xs) (hI : Li D cid eP eI s b ca a out j σ μ ls H locs) (hj : 9 * j + 9 ≤ L) (hc : cells + 9 ≤ 601024) (hs : slots + 110 ≤ 7293034) (kk : Kn p l e s m below meth c Q D cid eP eI b ca a out j cells slots) : W p l e room_1 s m #[.ref b] below meth c H locs cells slots Q (F0 m 802 ls []) := by
  obtain ⟨hls, hv, hW, hS, hok, hon⟩ := id hI
  obtain ⟨v, σ1, μ', r1, r2, hv', n1, n2⟩ := ok_fuel (xs (9 * j + 1)) (xs (9 * j + 2)) 0 σ ca a μ hv
  obtain ⟨x, rfl⟩ := (runc_ky r1).2 kc_C_fuel.rt
  refine lv_aload_n hL.1.1 hL.1.2.1 dl_802 rfl (lv_at hls 2 rfl) ?_
  refine lc_ld hL hls hS (i := 1) (by decide) hj rfl dl_803 dl_804 dl_806 dl_807 dl_808 ?_
  refine lc_ld hL hls hS (i := 2) (by decide) hj rfl dl_809 dl_810 dl_812 dl_813 dl_814 ?_
  refine lc_call hL (ys := [xs (9 * j + 1), xs (9 * j + 2)]) kc_C_fuel hW hS hls.1 (by decide) (inv_ca hv) (by decide) r1 (num1 hc hs n1 n2) rfl dl_815 (fun H1 locs1 hW1 hS1 => ?_)
  refine lv_aload_n hL.1.1 hL.1.2.1 dl_818 rfl (lv_at hls 3 rfl) ?_
  refine lc_ld hL hls hS1 (i := 1) (by decide) hj rfl dl_819 dl_820 dl_822 dl_823 dl_824 ?_
  refine lc_ld hL hls hS1 (i := 2) (by decide) hj rfl dl_825 dl_826 dl_828 dl_829 dl_830 ?_
  refine lc_call hL (ys := [xs (9 * j + 1), xs (9 * j + 2)]) kc_M_fuel hW1 hS1 hls.1 (by decide) (inv_a1 hv r1) (Nat.le_of_ble_eq_true rfl) r2 (num2 hc hs n1 n2 rfl rfl) rfl dl_831 (fun H2 locs2 hW2 hS2 => ?_)
  refine lv_icmp_eq hL.1.1 hL.1.2.1 dl_834 (tgt := 1512) (by decide) (fun _ => ?_) (fun h => absurd rfl h)
  exact W.widen (num3 n1 rfl) (num4 n2 rfl) (kk ls _ μ' H2 locs2 (li_next hI r1 r2 hv' hW2 hS2))
theorem cs_13 (hL : Lw p l s m c D cid eP eI Od b L xs) (hI : Li D cid eP eI s b ca a out j σ μ ls H locs) (hj : 9 * j + 9 ≤ L) (hc : cells + 9 ≤ 601024) (hs : slots + 110 ≤ 7293034) (kk : Kn p l e s m below meth c Q D cid eP eI b ca a out j cells slots) : W p l e room_1 s m #[.ref b] below meth c H locs cells slots Q (F0 m 839 ls []) := by
  obtain ⟨hls, hv, hW, hS, hok, hon⟩ := id hI
  obtain ⟨v, σ1, μ', r1, r2, hv', n1, n2⟩ := ok_lift (xs (9 * j + 1)) (xs (9 * j + 2)) 0 σ ca a μ hv
  obtain ⟨x, rfl⟩ := (runc_ky r1).2 kc_C_lift.rt
  refine lv_aload_n hL.1.1 hL.1.2.1 dl_839 rfl (lv_at hls 2 rfl) ?_
  refine lc_ld hL hls hS (i := 1) (by decide) hj rfl dl_840 dl_841 dl_843 dl_844 dl_845 ?_
  refine lc_ld hL hls hS (i := 2) (by decide) hj rfl dl_846 dl_847 dl_849 dl_850 dl_851 ?_
  refine lc_call hL (ys := [xs (9 * j + 1), xs (9 * j + 2)]) kc_C_lift hW hS hls.1 (by decide) (inv_ca hv) (by decide) r1 (num1 hc hs n1 n2) rfl dl_852 (fun H1 locs1 hW1 hS1 => ?_)
  refine lv_aload_n hL.1.1 hL.1.2.1 dl_855 rfl (lv_at hls 3 rfl) ?_
  refine lc_ld hL hls hS1 (i := 1) (by decide) hj rfl dl_856 dl_857 dl_859 dl_860 dl_861 ?_
  refine lc_ld hL hls hS1 (i := 2) (by decide) hj rfl dl_862 dl_863 dl_865 dl_866 dl_867 ?_
  refine lc_call hL (ys := [xs (9 * j + 1), xs (9 * j + 2)]) kc_M_lift hW1 hS1 hls.1 (by decide) (inv_a1 hv r1) (Nat.le_of_ble_eq_true rfl) r2 (num2 hc hs n1 n2 rfl rfl) rfl dl_868 (fun H2 locs2 hW2 hS2 => ?_)
  refine lv_icmp_eq hL.1.1 hL.1.2.1 dl_871 (tgt := 1512) (by decide) (fun _ => ?_) (fun h => absurd rfl h)
  exact W.widen (num3 n1 rfl) (num4 n2 rfl) (kk ls _ μ' H2 locs2 (li_next hI r1 r2 hv' hW2 hS2))
theorem cs_14 (hL : Lw p l s m c D cid eP eI Od b L xs) (hI : Li D cid eP eI s b ca a out j σ μ ls H locs) (hj : 9 * j + 9 ≤ L) (hc : cells + 9 ≤ 601024) (hs : slots + 110 ≤ 7293034) (kk : Kn p l e s m below meth c Q D cid eP eI b ca a out j cells slots) : W p l e room_1 s m #[.ref b] below meth c H locs cells slots Q (F0 m 876 ls []) := by
  obtain ⟨hls, hv, hW, hS, hok, hon⟩ := id hI
  obtain ⟨v, σ1, μ', r1, r2, hv', n1, n2⟩ := ok_turn (xs (9 * j + 1)) 0 σ ca a μ hv
  obtain ⟨x, rfl⟩ := (runc_ky r1).2 kc_C_turn.rt
  refine lv_aload_n hL.1.1 hL.1.2.1 dl_876 rfl (lv_at hls 2 rfl) ?_
  refine lc_ld hL hls hS (i := 1) (by decide) hj rfl dl_877 dl_878 dl_880 dl_881 dl_882 ?_
  refine lc_call hL (ys := [xs (9 * j + 1)]) kc_C_turn hW hS hls.1 (by decide) (inv_ca hv) (by decide) r1 (num1 hc hs n1 n2) rfl dl_883 (fun H1 locs1 hW1 hS1 => ?_)
  refine lv_aload_n hL.1.1 hL.1.2.1 dl_886 rfl (lv_at hls 3 rfl) ?_
  refine lc_ld hL hls hS1 (i := 1) (by decide) hj rfl dl_887 dl_888 dl_890 dl_891 dl_892 ?_
  refine lc_call hL (ys := [xs (9 * j + 1)]) kc_M_turn hW1 hS1 hls.1 (by decide) (inv_a1 hv r1) (Nat.le_of_ble_eq_true rfl) r2 (num2 hc hs n1 n2 rfl rfl) rfl dl_893 (fun H2 locs2 hW2 hS2 => ?_)
  refine lv_icmp_eq hL.1.1 hL.1.2.1 dl_896 (tgt := 1512) (by decide) (fun _ => ?_) (fun h => absurd rfl h)
  exact W.widen (num3 n1 rfl) (num4 n2 rfl) (kk ls _ μ' H2 locs2 (li_next hI r1 r2 hv' hW2 hS2))
theorem cs_15 (hL : Lw p l s m c D cid eP eI Od b L xs) (hI : Li D cid eP eI s b ca a out j σ μ ls H locs) (hj : 9 * j + 9 ≤ L) (hc : cells + 9 ≤ 601024) (hs : slots + 110 ≤ 7293034) (kk : Kn p l e s m below meth c Q D cid eP eI b ca a out j cells slots) : W p l e room_1 s m #[.ref b] below meth c H locs cells slots Q (F0 m 901 ls []) := by
  obtain ⟨hls, hv, hW, hS, hok, hon⟩ := id hI
  obtain ⟨v, σ1, μ', r1, r2, hv', n1, n2⟩ := ok_point (xs (9 * j + 1)) (xs (9 * j + 2)) 0 σ ca a μ hv
  obtain ⟨x, rfl⟩ := (runc_ky r1).2 kc_C_point.rt
  refine lv_aload_n hL.1.1 hL.1.2.1 dl_901 rfl (lv_at hls 2 rfl) ?_
  refine lc_ld hL hls hS (i := 1) (by decide) hj rfl dl_902 dl_903 dl_905 dl_906 dl_907 ?_
  refine lc_ld hL hls hS (i := 2) (by decide) hj rfl dl_908 dl_909 dl_911 dl_912 dl_913 ?_
  refine lc_call hL (ys := [xs (9 * j + 1), xs (9 * j + 2)]) kc_C_point hW hS hls.1 (by decide) (inv_ca hv) (by decide) r1 (num1 hc hs n1 n2) rfl dl_914 (fun H1 locs1 hW1 hS1 => ?_)
  refine lv_aload_n hL.1.1 hL.1.2.1 dl_917 rfl (lv_at hls 3 rfl) ?_
  refine lc_ld hL hls hS1 (i := 1) (by decide) hj rfl dl_918 dl_919 dl_921 dl_922 dl_923 ?_
  refine lc_ld hL hls hS1 (i := 2) (by decide) hj rfl dl_924 dl_925 dl_927 dl_928 dl_929 ?_
  refine lc_call hL (ys := [xs (9 * j + 1), xs (9 * j + 2)]) kc_M_point hW1 hS1 hls.1 (by decide) (inv_a1 hv r1) (Nat.le_of_ble_eq_true rfl) r2 (num2 hc hs n1 n2 rfl rfl) rfl dl_930 (fun H2 locs2 hW2 hS2 => ?_)
  refine lv_icmp_eq hL.1.1 hL.1.2.1 dl_933 (tgt := 1512) (by decide) (fun _ => ?_) (fun h => absurd rfl h)
  exact W.widen (num3 n1 rfl) (num4 n2 rfl) (kk ls _ μ' H2 locs2 (li_next hI r1 r2 hv' hW2 hS2))
end V1
