/-! THE LAW: its other cases -/
set_option maxHeartbeats 4000000 in
set_option maxRecDepth 100000 in
theorem law_16 {p : Program} {l : Launch} {e : Env} {s : State} {m : MethodId} {below : List Frame} {meth : Method} {c : Code} {b L : Nat} {xs : Nat → Int32} {E : cE} {tt : Nat × Nat × Nat} {i : Nat} (C0 : lw_At p s m meth c b L xs) (hL : L ≤ 3584) (hi : i + 7 ≤ L) (K : LH p l e s m below meth c b E tt (i + 7) 18) : LH p l e s m below meth c b E tt i 823 := by
  intro X B F G P nh nc no nn mt om H locs ls hI hw hl
  have hx := C0.1
  have hb := C0.2.1
  have C := LAc C0
  refine lv_aload_n hx hb dL_law_823 rfl (lv_at hl 1 rfl) ?_
  refine la_arg C0 hw (lv_at hl 0 rfl) (lv_at hl 3 rfl) hL hi 1 (by decide) (by decide) dL_law_824 dL_law_825 dL_law_826 dL_law_827 dL_law_828 ?_
  refine kV C hw (c_X11_ready E tt B F G hI.R (xs (i + 1))) vy_X11_ready ml_L_84 (rcv hw (hI.R.f rfl) rfl (by decide) (q2 := (RX11, TX11, 19)) rfl) rfl hl.1 (rest := []) rfl dL_law_829 (Nat.le_of_ble_eq_true rfl) ⟨by decide, by decide⟩ ⟨by show _ ≤ 600000; omega, by show _ ≤ 7302250; omega⟩ (fun v0 ws0 H locs hp0 hq0 => ?_)
  clear hw
  obtain ⟨rfl, rfl⟩ := hp0
  have hw := hq0
  refine W.eq (g2 := F0 m 832 ls [.int (sp_ready (vF F) (xs (i + 1)))]) rfl ?_
  refine lv_aload_n hx hb dL_law_832 rfl (lv_at hl 2 rfl) ?_
  refine la_arg C0 hw (lv_at hl 0 rfl) (lv_at hl 3 rfl) hL hi 1 (by decide) (by decide) dL_law_833 dL_law_834 dL_law_835 dL_law_836 dL_law_837 ?_
  refine kV C hw (c_X12_ready E tt B F G hI.M  (xs (i + 1))) vy_X12_ready ml_L_87 (rcv hw (hI.M.m rfl) rfl (by decide) (q2 := (RX12, TX12, 49)) rfl) rfl hl.1 (rest := [.int (sp_ready (vF F) (xs (i + 1)))]) rfl dL_law_838 (Nat.le_of_ble_eq_true rfl) ⟨by decide, by decide⟩ ⟨by show _ ≤ 600000; omega, by show _ ≤ 7302250; omega⟩ (fun v1 ws1 H locs hp1 hq1 => ?_)
  clear hw
  obtain ⟨rfl, rfl⟩ := hp1
  have hw := hq1
  refine W.eq (g2 := F0 m 841 ls [.int (sp_ready F (xs (i + 1))), .int (sp_ready (vF F) (xs (i + 1)))]) rfl ?_
  refine lv_icmp_eq (tgt := 1370) hx hb dL_law_841 (by decide) (fun _ => ?_) (fun h9 => absurd (show sp_ready (vF F) (xs (i + 1)) = sp_ready (rF F) (xs (i + 1)) by rw [hI.v]) h9)
  exact la_fin C0 hL hi K hI hw hl (by omega) (by omega)
set_option maxHeartbeats 4000000 in
set_option maxRecDepth 100000 in
theorem law_17 {p : Program} {l : Launch} {e : Env} {s : State} {m : MethodId} {below : List Frame} {meth : Method} {c : Code} {b L : Nat} {xs : Nat → Int32} {E : cE} {tt : Nat × Nat × Nat} {i : Nat} (C0 : lw_At p s m meth c b L xs) (hL : L ≤ 3584) (hi : i + 7 ≤ L) (K : LH p l e s m below meth c b E tt (i + 7) 18) : LH p l e s m below meth c b E tt i 846 := by
  intro X B F G P nh nc no nn mt om H locs ls hI hw hl
  have hx := C0.1
  have hb := C0.2.1
  have C := LAc C0
  refine lv_aload_n hx hb dL_law_846 rfl (lv_at hl 1 rfl) ?_
  refine la_arg C0 hw (lv_at hl 0 rfl) (lv_at hl 3 rfl) hL hi 1 (by decide) (by decide) dL_law_847 dL_law_848 dL_law_849 dL_law_850 dL_law_851 ?_
  refine la_arg C0 hw (lv_at hl 0 rfl) (lv_at hl 3 rfl) hL hi 2 (by decide) (by decide) dL_law_852 dL_law_853 dL_law_854 dL_law_855 dL_law_856 ?_
  refine la_arg C0 hw (lv_at hl 0 rfl) (lv_at hl 3 rfl) hL hi 3 (by decide) (by decide) dL_law_857 dL_law_858 dL_law_859 dL_law_860 dL_law_861 ?_
  refine la_arg C0 hw (lv_at hl 0 rfl) (lv_at hl 3 rfl) hL hi 4 (by decide) (by decide) dL_law_862 dL_law_863 dL_law_864 dL_law_865 dL_law_866 ?_
  refine la_arg C0 hw (lv_at hl 0 rfl) (lv_at hl 3 rfl) hL hi 5 (by decide) (by decide) dL_law_867 dL_law_868 dL_law_869 dL_law_870 dL_law_871 ?_
  refine kV C hw (c_X11_way E tt B F G hI.R hI.gi hI.wh (xs (i + 1)) (xs (i + 2)) (xs (i + 3)) (xs (i + 4)) (xs (i + 5))) vy_X11_way ml_L_88 (rcv hw (hI.R.f rfl) rfl (by decide) (q2 := (RX11, TX11, 19)) rfl) rfl hl.1 (rest := []) rfl dL_law_872 (Nat.le_of_ble_eq_true rfl) ⟨by decide, by decide⟩ ⟨by show _ ≤ 600000; omega, by show _ ≤ 7302250; omega⟩ (fun v0 ws0 H locs hp0 hq0 => ?_)
  clear hw
  obtain ⟨rfl, F1, P1, hag, hap, rfl⟩ := hp0
  have hw := hq0
  have hS1 := hI.S.k hag.KW.1 (G1 := G) (fun _ _ => rfl)
  have hI1 : LI X F1 G P1 nh nc no nn mt om := hI.view hag.KW LO.rf LG.rf (by rw [hag.v, rF_eq hag.KW.1, hI.v]) hI.vg hS1 hap
  refine W.eq (g2 := F0 m 875 ls [.int (sp_way (vF F) (vG G) nc nh mt (xs (i + 1)) (xs (i + 2)) (xs (i + 3)) (xs (i + 4)) (xs (i + 5)))]) rfl ?_
  refine lv_aload_n hx hb dL_law_875 rfl (lv_at hl 2 rfl) ?_
  refine la_arg C0 hw (lv_at hl 0 rfl) (lv_at hl 3 rfl) hL hi 1 (by decide) (by decide) dL_law_876 dL_law_877 dL_law_878 dL_law_879 dL_law_880 ?_
  refine la_arg C0 hw (lv_at hl 0 rfl) (lv_at hl 3 rfl) hL hi 2 (by decide) (by decide) dL_law_881 dL_law_882 dL_law_883 dL_law_884 dL_law_885 ?_
  refine la_arg C0 hw (lv_at hl 0 rfl) (lv_at hl 3 rfl) hL hi 3 (by decide) (by decide) dL_law_886 dL_law_887 dL_law_888 dL_law_889 dL_law_890 ?_
  refine la_arg C0 hw (lv_at hl 0 rfl) (lv_at hl 3 rfl) hL hi 4 (by decide) (by decide) dL_law_891 dL_law_892 dL_law_893 dL_law_894 dL_law_895 ?_
  refine la_arg C0 hw (lv_at hl 0 rfl) (lv_at hl 3 rfl) hL hi 5 (by decide) (by decide) dL_law_896 dL_law_897 dL_law_898 dL_law_899 dL_law_900 ?_
  refine kV C hw (c_X12_way E tt B F1 G hI1.M nc mt hS1.co nh hS1.hn hS1.1 (xs (i + 1)) (xs (i + 2)) (xs (i + 3)) (xs (i + 4)) (xs (i + 5))) vy_X12_way ml_L_92 (rcv hw (hI1.M.m rfl) rfl (by decide) (q2 := (RX12, TX12, 49)) rfl) rfl hl.1 (rest := [.int (sp_way (vF F) (vG G) nc nh mt (xs (i + 1)) (xs (i + 2)) (xs (i + 3)) (xs (i + 4)) (xs (i + 5)))]) rfl dL_law_901 (Nat.le_of_ble_eq_true rfl) ⟨by decide, by decide⟩ ⟨by show _ ≤ 600000; omega, by show _ ≤ 7302250; omega⟩ (fun v1 ws1 H locs hp1 hq1 => ?_)
  clear hw
  obtain ⟨rfl, F2, haw, rfl⟩ := hp1
  have hw := hq1
  refine W.eq (g2 := F0 m 904 ls [.int (sp_way F1 G nc nh mt (xs (i + 1)) (xs (i + 2)) (xs (i + 3)) (xs (i + 4)) (xs (i + 5))), .int (sp_way (vF F) (vG G) nc nh mt (xs (i + 1)) (xs (i + 2)) (xs (i + 3)) (xs (i + 4)) (xs (i + 5)))]) rfl ?_
  refine lv_icmp_eq (tgt := 1370) hx hb dL_law_904 (by decide) (fun _ => ?_) (fun h9 => absurd (show sp_way (vF F) (vG G) nc nh mt (xs (i + 1)) (xs (i + 2)) (xs (i + 3)) (xs (i + 4)) (xs (i + 5)) = sp_way (rF F1) (rG G) nc nh mt (xs (i + 1)) (xs (i + 2)) (xs (i + 3)) (xs (i + 4)) (xs (i + 5)) by rw [hI.v, hI.vg, rF_eq hag.KW.1]) h9)
  exact la_fin C0 hL hi K (hI1.sc haw.s) hw hl (by omega) (by omega)
set_option maxHeartbeats 4000000 in
set_option maxRecDepth 100000 in
theorem law_18 {p : Program} {l : Launch} {e : Env} {s : State} {m : MethodId} {below : List Frame} {meth : Method} {c : Code} {b L : Nat} {xs : Nat → Int32} {E : cE} {tt : Nat × Nat × Nat} {i : Nat} (C0 : lw_At p s m meth c b L xs) (hL : L ≤ 3584) (hi : i + 7 ≤ L) (K : LH p l e s m below meth c b E tt (i + 7) 18) : LH p l e s m below meth c b E tt i 909 := by
  intro X B F G P nh nc no nn mt om H locs ls hI hw hl
  have hx := C0.1
  have hb := C0.2.1
  have C := LAc C0
  refine lv_aload_n hx hb dL_law_909 rfl (lv_at hl 1 rfl) ?_
  refine la_arg C0 hw (lv_at hl 0 rfl) (lv_at hl 3 rfl) hL hi 1 (by decide) (by decide) dL_law_910 dL_law_911 dL_law_912 dL_law_913 dL_law_914 ?_
  refine la_arg C0 hw (lv_at hl 0 rfl) (lv_at hl 3 rfl) hL hi 2 (by decide) (by decide) dL_law_915 dL_law_916 dL_law_917 dL_law_918 dL_law_919 ?_
  refine la_arg C0 hw (lv_at hl 0 rfl) (lv_at hl 3 rfl) hL hi 3 (by decide) (by decide) dL_law_920 dL_law_921 dL_law_922 dL_law_923 dL_law_924 ?_
  refine la_arg C0 hw (lv_at hl 0 rfl) (lv_at hl 3 rfl) hL hi 4 (by decide) (by decide) dL_law_925 dL_law_926 dL_law_927 dL_law_928 dL_law_929 ?_
  refine la_arg C0 hw (lv_at hl 0 rfl) (lv_at hl 3 rfl) hL hi 5 (by decide) (by decide) dL_law_930 dL_law_931 dL_law_932 dL_law_933 dL_law_934 ?_
  refine la_arg6 C0 hw (lv_at hl 0 rfl) (lv_at hl 3 rfl) hL hi dL_law_935 dL_law_936 dL_law_937 dL_law_939 dL_law_940 ?_
  refine kV C hw (c_X11_step E tt B F G hI.R hI.gi hI.wh (xs (i + 1)) (xs (i + 2)) (xs (i + 3)) (xs (i + 4)) (xs (i + 5)) (xs (i + 6))) vy_X11_step ml_L_93 (rcv hw (hI.R.f rfl) rfl (by decide) (q2 := (RX11, TX11, 19)) rfl) rfl hl.1 (rest := []) rfl dL_law_941 (Nat.le_of_ble_eq_true rfl) ⟨by decide, by decide⟩ ⟨by show _ ≤ 600000; omega, by show _ ≤ 7302250; omega⟩ (fun v0 ws0 H locs hp0 hq0 => ?_)
  clear hw
  obtain ⟨rfl, F1, P1, hag, hap, rfl⟩ := hp0
  have hw := hq0
  have hS1 := hI.S.k hag.KW.1 (G1 := G) (fun _ _ => rfl)
  have hI1 : LI X F1 G P1 nh nc no nn mt om := hI.view hag.KW LO.rf LG.rf (by rw [hag.v, rF_eq hag.KW.1, hI.v]) hI.vg hS1 hap
  refine W.eq (g2 := F0 m 944 ls [.int (sp_step (vF F) (vG G) nc nh mt (xs (i + 1)) (xs (i + 2)) (xs (i + 3)) (xs (i + 4)) (xs (i + 5)) (xs (i + 6)))]) rfl ?_
  refine lv_aload_n hx hb dL_law_944 rfl (lv_at hl 2 rfl) ?_
  refine la_arg C0 hw (lv_at hl 0 rfl) (lv_at hl 3 rfl) hL hi 1 (by decide) (by decide) dL_law_945 dL_law_946 dL_law_947 dL_law_948 dL_law_949 ?_
  refine la_arg C0 hw (lv_at hl 0 rfl) (lv_at hl 3 rfl) hL hi 2 (by decide) (by decide) dL_law_950 dL_law_951 dL_law_952 dL_law_953 dL_law_954 ?_
  refine la_arg C0 hw (lv_at hl 0 rfl) (lv_at hl 3 rfl) hL hi 3 (by decide) (by decide) dL_law_955 dL_law_956 dL_law_957 dL_law_958 dL_law_959 ?_
  refine la_arg C0 hw (lv_at hl 0 rfl) (lv_at hl 3 rfl) hL hi 4 (by decide) (by decide) dL_law_960 dL_law_961 dL_law_962 dL_law_963 dL_law_964 ?_
  refine la_arg C0 hw (lv_at hl 0 rfl) (lv_at hl 3 rfl) hL hi 5 (by decide) (by decide) dL_law_965 dL_law_966 dL_law_967 dL_law_968 dL_law_969 ?_
  refine la_arg6 C0 hw (lv_at hl 0 rfl) (lv_at hl 3 rfl) hL hi dL_law_970 dL_law_971 dL_law_972 dL_law_974 dL_law_975 ?_
  refine kV C hw (c_X12_step E tt B F1 G hI1.M nc mt hS1.co nh hS1.hn hS1.1 (xs (i + 1)) (xs (i + 2)) (xs (i + 3)) (xs (i + 4)) (xs (i + 5)) (xs (i + 6))) vy_X12_step ml_L_96 (rcv hw (hI1.M.m rfl) rfl (by decide) (q2 := (RX12, TX12, 49)) rfl) rfl hl.1 (rest := [.int (sp_step (vF F) (vG G) nc nh mt (xs (i + 1)) (xs (i + 2)) (xs (i + 3)) (xs (i + 4)) (xs (i + 5)) (xs (i + 6)))]) rfl dL_law_976 (Nat.le_of_ble_eq_true rfl) ⟨by decide, by decide⟩ ⟨by show _ ≤ 600000; omega, by show _ ≤ 7302250; omega⟩ (fun v1 ws1 H locs hp1 hq1 => ?_)
  clear hw
  obtain ⟨rfl, F2, haw, rfl⟩ := hp1
  have hw := hq1
  refine W.eq (g2 := F0 m 979 ls [.int (sp_step F1 G nc nh mt (xs (i + 1)) (xs (i + 2)) (xs (i + 3)) (xs (i + 4)) (xs (i + 5)) (xs (i + 6))), .int (sp_step (vF F) (vG G) nc nh mt (xs (i + 1)) (xs (i + 2)) (xs (i + 3)) (xs (i + 4)) (xs (i + 5)) (xs (i + 6)))]) rfl ?_
  refine lv_icmp_eq (tgt := 1370) hx hb dL_law_979 (by decide) (fun _ => ?_) (fun h9 => absurd (show sp_step (vF F) (vG G) nc nh mt (xs (i + 1)) (xs (i + 2)) (xs (i + 3)) (xs (i + 4)) (xs (i + 5)) (xs (i + 6)) = sp_step (rF F1) (rG G) nc nh mt (xs (i + 1)) (xs (i + 2)) (xs (i + 3)) (xs (i + 4)) (xs (i + 5)) (xs (i + 6)) by rw [hI.v, hI.vg, rF_eq hag.KW.1]) h9)
  exact la_fin C0 hL hi K (hI1.sc haw.s) hw hl (by omega) (by omega)
set_option maxHeartbeats 4000000 in
set_option maxRecDepth 100000 in
theorem law_19 {p : Program} {l : Launch} {e : Env} {s : State} {m : MethodId} {below : List Frame} {meth : Method} {c : Code} {b L : Nat} {xs : Nat → Int32} {E : cE} {tt : Nat × Nat × Nat} {i : Nat} (C0 : lw_At p s m meth c b L xs) (hL : L ≤ 3584) (hi : i + 7 ≤ L) (K : LH p l e s m below meth c b E tt (i + 7) 18) : LH p l e s m below meth c b E tt i 984 := by
  intro X B F G P nh nc no nn mt om H locs ls hI hw hl
  have hx := C0.1
  have hb := C0.2.1
  have C := LAc C0
  refine lv_aload_n hx hb dL_law_984 rfl (lv_at hl 1 rfl) ?_
  refine la_arg C0 hw (lv_at hl 0 rfl) (lv_at hl 3 rfl) hL hi 1 (by decide) (by decide) dL_law_985 dL_law_986 dL_law_987 dL_law_988 dL_law_989 ?_
  refine la_arg C0 hw (lv_at hl 0 rfl) (lv_at hl 3 rfl) hL hi 2 (by decide) (by decide) dL_law_990 dL_law_991 dL_law_992 dL_law_993 dL_law_994 ?_
  refine la_arg C0 hw (lv_at hl 0 rfl) (lv_at hl 3 rfl) hL hi 3 (by decide) (by decide) dL_law_995 dL_law_996 dL_law_997 dL_law_998 dL_law_999 ?_
  refine la_arg C0 hw (lv_at hl 0 rfl) (lv_at hl 3 rfl) hL hi 4 (by decide) (by decide) dL_law_1000 dL_law_1001 dL_law_1002 dL_law_1003 dL_law_1004 ?_
  refine la_arg C0 hw (lv_at hl 0 rfl) (lv_at hl 3 rfl) hL hi 5 (by decide) (by decide) dL_law_1005 dL_law_1006 dL_law_1007 dL_law_1008 dL_law_1009 ?_
  refine kV C hw (c_X11_go E tt B F G hI.R hI.gi hI.wh (xs (i + 1)) (xs (i + 2)) (xs (i + 3)) (xs (i + 4)) (xs (i + 5))) vy_X11_go ml_L_97 (rcv hw (hI.R.f rfl) rfl (by decide) (q2 := (RX11, TX11, 19)) rfl) rfl hl.1 (rest := []) rfl dL_law_1010 (Nat.le_of_ble_eq_true rfl) ⟨by decide, by decide⟩ ⟨by show _ ≤ 600000; omega, by show _ ≤ 7302250; omega⟩ (fun v0 ws0 H locs hp0 hq0 => ?_)
  clear hw
  obtain ⟨rfl, F1, G1, P1, hk, hkg, hap, hv, hvg, rfl⟩ := hp0
  have hw := hq0
  have hS1 := hI.S.k hk.1 hkg
  have hM1 := hI.M.ap hap
  refine W.eq (g2 := F0 m 1013 ls [.int (sp_go (vF F) (vG G) nc nh mt (xs (i + 1)) (xs (i + 2)) (xs (i + 3)) (xs (i + 4)) (xs (i + 5)))]) rfl ?_
  refine lv_aload_n hx hb dL_law_1013 rfl (lv_at hl 2 rfl) ?_
  refine la_arg C0 hw (lv_at hl 0 rfl) (lv_at hl 3 rfl) hL hi 1 (by decide) (by decide) dL_law_1014 dL_law_1015 dL_law_1016 dL_law_1017 dL_law_1018 ?_
  refine la_arg C0 hw (lv_at hl 0 rfl) (lv_at hl 3 rfl) hL hi 2 (by decide) (by decide) dL_law_1019 dL_law_1020 dL_law_1021 dL_law_1022 dL_law_1023 ?_
  refine la_arg C0 hw (lv_at hl 0 rfl) (lv_at hl 3 rfl) hL hi 3 (by decide) (by decide) dL_law_1024 dL_law_1025 dL_law_1026 dL_law_1027 dL_law_1028 ?_
  refine la_arg C0 hw (lv_at hl 0 rfl) (lv_at hl 3 rfl) hL hi 4 (by decide) (by decide) dL_law_1029 dL_law_1030 dL_law_1031 dL_law_1032 dL_law_1033 ?_
  refine la_arg C0 hw (lv_at hl 0 rfl) (lv_at hl 3 rfl) hL hi 5 (by decide) (by decide) dL_law_1034 dL_law_1035 dL_law_1036 dL_law_1037 dL_law_1038 ?_
  refine kV C hw (c_X12_go E tt B F1 G1 hM1 nc mt hS1.co nh hS1.hn hS1.1 (xs (i + 1)) (xs (i + 2)) (xs (i + 3)) (xs (i + 4)) (xs (i + 5))) vy_X12_go ml_L_100 (rcv hw (hM1.m rfl) rfl (by decide) (q2 := (RX12, TX12, 49)) rfl) rfl hl.1 (rest := [.int (sp_go (vF F) (vG G) nc nh mt (xs (i + 1)) (xs (i + 2)) (xs (i + 3)) (xs (i + 4)) (xs (i + 5)))]) rfl dL_law_1039 (Nat.le_of_ble_eq_true rfl) ⟨by decide, by decide⟩ ⟨by show _ ≤ 600000; omega, by show _ ≤ 7302250; omega⟩ (fun v1 ws1 H locs hp1 hq1 => ?_)
  clear hw
  obtain ⟨rfl, F2, haw, rfl⟩ := hp1
  have hw := hq1
  refine W.eq (g2 := F0 m 1042 ls [.int (sp_go F1 G1 nc nh mt (xs (i + 1)) (xs (i + 2)) (xs (i + 3)) (xs (i + 4)) (xs (i + 5))), .int (sp_go (vF F) (vG G) nc nh mt (xs (i + 1)) (xs (i + 2)) (xs (i + 3)) (xs (i + 4)) (xs (i + 5)))]) rfl ?_
  have hI1 := hI.view hk (lo_go (F := F1) (G := G1) (nc := nc) (nh := nh) (mt := mt) (xs (i + 1)) (xs (i + 2)) (xs (i + 3)) (xs (i + 4)) (xs (i + 5))) (lg_go (F := F1) (G := G1) (nc := nc) (nh := nh) (mt := mt) (xs (i + 1)) (xs (i + 2)) (xs (i + 3)) (xs (i + 4)) (xs (i + 5))) (by rw [hv, s_goF, rF_eq hk.1, rG_eq hkg, hI.v, hI.vg]) (by rw [hvg, s_goG, rF_eq hk.1, rG_eq hkg, hI.v, hI.vg]) (hS1.keep (st_go_keep hS1.1 (xs (i + 1)) (xs (i + 2)) (xs (i + 3)) (xs (i + 4)) (xs (i + 5))).1 (st_go_keep hS1.1 (xs (i + 1)) (xs (i + 2)) (xs (i + 3)) (xs (i + 4)) (xs (i + 5))).2) hap
  refine lv_icmp_eq (tgt := 1370) hx hb dL_law_1042 (by decide) (fun _ => ?_) (fun h9 => absurd (by rw [hI.v, hI.vg, ← rF_eq hk.1, ← rG_eq hkg, r_go]) h9)
  exact la_fin C0 hL hi K (hI1.sc haw.s) hw hl (by omega) (by omega)
set_option maxHeartbeats 4000000 in
set_option maxRecDepth 100000 in
theorem law_20 {p : Program} {l : Launch} {e : Env} {s : State} {m : MethodId} {below : List Frame} {meth : Method} {c : Code} {b L : Nat} {xs : Nat → Int32} {E : cE} {tt : Nat × Nat × Nat} {i : Nat} (C0 : lw_At p s m meth c b L xs) (hL : L ≤ 3584) (hi : i + 7 ≤ L) (K : LH p l e s m below meth c b E tt (i + 7) 18) : LH p l e s m below meth c b E tt i 1047 := by
  intro X B F G P nh nc no nn mt om H locs ls hI hw hl
  have hx := C0.1
  have hb := C0.2.1
  have C := LAc C0
  refine lv_aload_n hx hb dL_law_1047 rfl (lv_at hl 1 rfl) ?_
  refine la_arg C0 hw (lv_at hl 0 rfl) (lv_at hl 3 rfl) hL hi 1 (by decide) (by decide) dL_law_1048 dL_law_1049 dL_law_1050 dL_law_1051 dL_law_1052 ?_
  refine la_arg C0 hw (lv_at hl 0 rfl) (lv_at hl 3 rfl) hL hi 2 (by decide) (by decide) dL_law_1053 dL_law_1054 dL_law_1055 dL_law_1056 dL_law_1057 ?_
  refine la_arg C0 hw (lv_at hl 0 rfl) (lv_at hl 3 rfl) hL hi 3 (by decide) (by decide) dL_law_1058 dL_law_1059 dL_law_1060 dL_law_1061 dL_law_1062 ?_
  refine la_arg C0 hw (lv_at hl 0 rfl) (lv_at hl 3 rfl) hL hi 4 (by decide) (by decide) dL_law_1063 dL_law_1064 dL_law_1065 dL_law_1066 dL_law_1067 ?_
  refine kV C hw (c_X11_order E tt B F G hI.R hI.X_ hI.n_o (xs (i + 1)) (xs (i + 2)) (xs (i + 3)) (xs (i + 4))) vy_X11_order ml_L_101 (rcv hw (hI.R.f rfl) rfl (by decide) (q2 := (RX11, TX11, 19)) rfl) rfl hl.1 (rest := []) rfl dL_law_1068 (Nat.le_of_ble_eq_true rfl) ⟨by decide, by decide⟩ ⟨by show _ ≤ 600000; omega, by show _ ≤ 7302250; omega⟩ (fun v0 ws0 H locs hp0 hq0 => ?_)
  clear hw
  obtain ⟨rfl, hor⟩ := hp0
  have hw := hq0
  rcases hor with ⟨hok, i0, hi0, hp0, B1, hB, rfl⟩ | ⟨hno, rfl⟩
  · have hI2 := hI.order hi0 (hp0 ▸ hok)
    have h6 := hI.R.no6
    have hno6 := hok.2.2
    have hS1 := hI.S.k (F1 := uF (uF (uF (uF (zF F (70 + no)) (70 + no) 1 (xs (i + 2))) (70 + no) 2 (xs (i + 3))) (70 + no) 3 (xs (i + 4))) 0 11 (nI (no + 1))) (G1 := zG G (70 + no)) (((((KW.rf0.z (by omega)).w (by omega)).w (by omega)).w (by omega)).w (by omega)).1 (fun z hz => zG_o (by omega))
    have hl : lv_has ls 4 [(0, .ref b), (1, .ref (B1 0)), (2, .ref (B1 100)), (3, .int (nI i))] := by rw [hB 0 (by omega), hB 100 (by omega)]; exact hl
    refine W.eq (g2 := F0 m 1071 ls [.int (sp_order no (xs (i + 1)) (xs (i + 2)) (xs (i + 3)) (xs (i + 4)))]) rfl ?_
    refine lv_aload_n hx hb dL_law_1071 rfl (lv_at hl 2 rfl) ?_
    refine la_arg C0 hw (lv_at hl 0 rfl) (lv_at hl 3 rfl) hL hi 1 (by decide) (by decide) dL_law_1072 dL_law_1073 dL_law_1074 dL_law_1075 dL_law_1076 ?_
    refine la_arg C0 hw (lv_at hl 0 rfl) (lv_at hl 3 rfl) hL hi 2 (by decide) (by decide) dL_law_1077 dL_law_1078 dL_law_1079 dL_law_1080 dL_law_1081 ?_
    refine la_arg C0 hw (lv_at hl 0 rfl) (lv_at hl 3 rfl) hL hi 3 (by decide) (by decide) dL_law_1082 dL_law_1083 dL_law_1084 dL_law_1085 dL_law_1086 ?_
    refine la_arg C0 hw (lv_at hl 0 rfl) (lv_at hl 3 rfl) hL hi 4 (by decide) (by decide) dL_law_1087 dL_law_1088 dL_law_1089 dL_law_1090 dL_law_1091 ?_
    refine kV C hw (c_X12_order E tt B1 _ _ hI2.M no hS1.on (xs (i + 1)) (xs (i + 2)) (xs (i + 3)) (xs (i + 4))) vy_X12_order ml_L_104 (rcv hw (hI2.M.m rfl) rfl (by decide) (q2 := (RX12, TX12, 49)) rfl) rfl hl.1 (rest := [.int (sp_order no (xs (i + 1)) (xs (i + 2)) (xs (i + 3)) (xs (i + 4)))]) rfl dL_law_1092 (Nat.le_of_ble_eq_true rfl) ⟨by decide, by decide⟩ ⟨by show _ ≤ 600000; omega, by show _ ≤ 7302250; omega⟩ (fun v1 ws1 H locs hp1 hq1 => ?_)
    clear hw
    obtain ⟨rfl, rfl⟩ := hp1
    have hw := hq1
    refine W.eq (g2 := F0 m 1095 ls [.int (sp_order no (xs (i + 1)) (xs (i + 2)) (xs (i + 3)) (xs (i + 4))), .int (sp_order no (xs (i + 1)) (xs (i + 2)) (xs (i + 3)) (xs (i + 4)))]) rfl ?_
    rw [hp0] at hw
    refine lv_icmp_eq (tgt := 1370) hx hb dL_law_1095 (by decide) (fun _ => ?_) (fun h9 => absurd (rfl) h9)
    exact la_fin C0 hL hi K hI2 hw hl (by omega) (by omega)
  · have hz := hno
    refine W.eq (g2 := F0 m 1071 ls [.int (sp_order no (xs (i + 1)) (xs (i + 2)) (xs (i + 3)) (xs (i + 4)))]) rfl ?_
    refine lv_aload_n hx hb dL_law_1071 rfl (lv_at hl 2 rfl) ?_
    refine la_arg C0 hw (lv_at hl 0 rfl) (lv_at hl 3 rfl) hL hi 1 (by decide) (by decide) dL_law_1072 dL_law_1073 dL_law_1074 dL_law_1075 dL_law_1076 ?_
    refine la_arg C0 hw (lv_at hl 0 rfl) (lv_at hl 3 rfl) hL hi 2 (by decide) (by decide) dL_law_1077 dL_law_1078 dL_law_1079 dL_law_1080 dL_law_1081 ?_
    refine la_arg C0 hw (lv_at hl 0 rfl) (lv_at hl 3 rfl) hL hi 3 (by decide) (by decide) dL_law_1082 dL_law_1083 dL_law_1084 dL_law_1085 dL_law_1086 ?_
    refine la_arg C0 hw (lv_at hl 0 rfl) (lv_at hl 3 rfl) hL hi 4 (by decide) (by decide) dL_law_1087 dL_law_1088 dL_law_1089 dL_law_1090 dL_law_1091 ?_
    refine kV C hw (c_X12_order E tt B F G hI.M no hI.S.on (xs (i + 1)) (xs (i + 2)) (xs (i + 3)) (xs (i + 4))) vy_X12_order ml_L_104 (rcv hw (hI.M.m rfl) rfl (by decide) (q2 := (RX12, TX12, 49)) rfl) rfl hl.1 (rest := [.int (sp_order no (xs (i + 1)) (xs (i + 2)) (xs (i + 3)) (xs (i + 4)))]) rfl dL_law_1092 (Nat.le_of_ble_eq_true rfl) ⟨by decide, by decide⟩ ⟨by show _ ≤ 600000; omega, by show _ ≤ 7302250; omega⟩ (fun v1 ws1 H locs hp1 hq1 => ?_)
    clear hw
    obtain ⟨rfl, rfl⟩ := hp1
    have hw := hq1
    rw [st_order, if_neg hno] at hw
    refine W.eq (g2 := F0 m 1095 ls [.int (sp_order no (xs (i + 1)) (xs (i + 2)) (xs (i + 3)) (xs (i + 4))), .int (sp_order no (xs (i + 1)) (xs (i + 2)) (xs (i + 3)) (xs (i + 4)))]) rfl ?_
    refine lv_icmp_eq (tgt := 1370) hx hb dL_law_1095 (by decide) (fun _ => ?_) (fun h9 => absurd (rfl) h9)
    exact la_fin C0 hL hi K hI hw hl (by omega) (by omega)
set_option maxHeartbeats 4000000 in
set_option maxRecDepth 100000 in
theorem law_21 {p : Program} {l : Launch} {e : Env} {s : State} {m : MethodId} {below : List Frame} {meth : Method} {c : Code} {b L : Nat} {xs : Nat → Int32} {E : cE} {tt : Nat × Nat × Nat} {i : Nat} (C0 : lw_At p s m meth c b L xs) (hL : L ≤ 3584) (hi : i + 7 ≤ L) (K : LH p l e s m below meth c b E tt (i + 7) 18) : LH p l e s m below meth c b E tt i 1100 := by
  intro X B F G P nh nc no nn mt om H locs ls hI hw hl
  have hx := C0.1
  have hb := C0.2.1
  have C := LAc C0
  refine lv_aload_n hx hb dL_law_1100 rfl (lv_at hl 1 rfl) ?_
  refine kV C hw (c_X11_cutting E tt B F G hI.R hI.ck hI.q) vy_X11_cutting ml_L_105 (rcv hw (hI.R.f rfl) rfl (by decide) (q2 := (RX11, TX11, 19)) rfl) rfl hl.1 (rest := []) rfl dL_law_1101 (Nat.le_of_ble_eq_true rfl) ⟨by decide, by decide⟩ ⟨by show _ ≤ 600000; omega, by show _ ≤ 7302250; omega⟩ (fun v0 ws0 H locs hp0 hq0 => ?_)
  clear hw
  obtain ⟨F1, a1, hag, ho1, rfl, rfl⟩ := hp0
  have hw := hq0
  have hk := hag.KC
  have hS1 := hI.S.k hk.1 (G1 := G) (fun _ _ => rfl)
  have hI1 : LI X F1 G P nh nc no nn mt om := hI.view hk.w LO.rf LG.rf (by rw [hag.v, rF_eq hk.1, hI.v]) hI.vg hS1 (Or.inl rfl)
  have hq : qV (vF F) (vG G) nc no mt om = qV F1 G nc no mt om := show _ = qV (rF F1) (rG G) nc no mt om by rw [hI.v, hI.vg, rF_eq hk.1]
  rw [hq] at ho1
  refine W.eq (g2 := F0 m 1104 ls [.int (nI (tf (qV (vF F) (vG G) nc no mt om).1 a1 6))]) rfl ?_
  refine lv_aload_n hx hb dL_law_1104 rfl (lv_at hl 2 rfl) ?_
  refine kV C hw (c_X12_cutting E tt B F1 G hI.M nc mt hS1.co hS1.on (QR_ok hS1 (fun o ho => hI.R.om4 ho))) vy_X12_cutting ml_L_109 (rcv hw (hI.M.m rfl) rfl (by decide) (q2 := (RX12, TX12, 49)) rfl) rfl hl.1 (rest := [.int (nI (tf (qV (vF F) (vG G) nc no mt om).1 a1 6))]) rfl dL_law_1105 (Nat.le_of_ble_eq_true rfl) ⟨by decide, by decide⟩ ⟨by show _ ≤ 600000; omega, by show _ ≤ 7302250; omega⟩ (fun v1 ws1 H locs hp1 hq1 => ?_)
  clear hw
  obtain ⟨F2, a2, haf, ho2, rfl, rfl⟩ := hp1
  have hw := hq1
  refine W.eq (g2 := F0 m 1108 ls [.int (nI (tf (qV F1 G nc no mt om).1 a2 6)), .int (nI (tf (qV (vF F) (vG G) nc no mt om).1 a1 6))]) rfl ?_
  refine lv_icmp_eq (tgt := 1370) hx hb dL_law_1108 (by decide) (fun _ => ?_) (fun h9 => absurd (by rw [hq, tf_congr (ho1.u ho2)]) h9)
  exact la_fin C0 hL hi K (hI1.sc haf.s) hw hl (by omega) (by omega)
set_option maxHeartbeats 4000000 in
set_option maxRecDepth 100000 in
theorem law_22 {p : Program} {l : Launch} {e : Env} {s : State} {m : MethodId} {below : List Frame} {meth : Method} {c : Code} {b L : Nat} {xs : Nat → Int32} {E : cE} {tt : Nat × Nat × Nat} {i : Nat} (C0 : lw_At p s m meth c b L xs) (hL : L ≤ 3584) (hi : i + 7 ≤ L) (K : LH p l e s m below meth c b E tt (i + 7) 18) : LH p l e s m below meth c b E tt i 1113 := by
  intro X B F G P nh nc no nn mt om H locs ls hI hw hl
  have hx := C0.1
  have hb := C0.2.1
  have C := LAc C0
  refine lv_aload_n hx hb dL_law_1113 rfl (lv_at hl 1 rfl) ?_
  refine la_arg C0 hw (lv_at hl 0 rfl) (lv_at hl 3 rfl) hL hi 1 (by decide) (by decide) dL_law_1114 dL_law_1115 dL_law_1116 dL_law_1117 dL_law_1118 ?_
  refine kV C hw (c_X11_from E tt B F G hI.R hI.ck hI.q (xs (i + 1))) vy_X11_from ml_L_110 (rcv hw (hI.R.f rfl) rfl (by decide) (q2 := (RX11, TX11, 19)) rfl) rfl hl.1 (rest := []) rfl dL_law_1119 (Nat.le_of_ble_eq_true rfl) ⟨by decide, by decide⟩ ⟨by show _ ≤ 600000; omega, by show _ ≤ 7302250; omega⟩ (fun v0 ws0 H locs hp0 hq0 => ?_)
  clear hw
  obtain ⟨F1, hor, hag, rfl⟩ := hp0
  have hw := hq0
  have hk := hag.KC
  have hS1 := hI.S.k hk.1 (G1 := G) (fun _ _ => rfl)
  have hI1 : LI X F1 G P nh nc no nn mt om := hI.view hk.w LO.rf LG.rf (by rw [hag.v, rF_eq hk.1, hI.v]) hI.vg hS1 (Or.inl rfl)
  have hq : qV (vF F) (vG G) nc no mt om = qV F1 G nc no mt om := show _ = qV (rF F1) (rG G) nc no mt om by rw [hI.v, hI.vg, rF_eq hk.1]
  have hno := hI.R.no6
  rcases hor with ⟨o1, ho1, e1, a1, hpA, rfl⟩ | ⟨hne, rfl⟩
  · rw [hq] at hpA
    refine W.eq (g2 := F0 m 1122 ls [.int (cNr (rkA a1) o1)]) rfl ?_
    refine lv_aload_n hx hb dL_law_1122 rfl (lv_at hl 2 rfl) ?_
    refine la_arg C0 hw (lv_at hl 0 rfl) (lv_at hl 3 rfl) hL hi 1 (by decide) (by decide) dL_law_1123 dL_law_1124 dL_law_1125 dL_law_1126 dL_law_1127 ?_
    refine kV C hw (c_X12_from E tt B F1 G hI.M nc mt hS1.co hS1.on (QR_ok hS1 (fun o ho => hI.R.om4 ho)) (xs (i + 1))) vy_X12_from ml_L_113 (rcv hw (hI.M.m rfl) rfl (by decide) (q2 := (RX12, TX12, 49)) rfl) rfl hl.1 (rest := [.int (cNr (rkA a1) o1)]) rfl dL_law_1128 (Nat.le_of_ble_eq_true rfl) ⟨by decide, by decide⟩ ⟨by show _ ≤ 600000; omega, by show _ ≤ 7302250; omega⟩ (fun v1 ws1 H locs hp1 hq1 => ?_)
    clear hw
    obtain ⟨F2, hor2, haf, rfl⟩ := hp1
    have hw := hq1
    rcases hor2 with ⟨o2, ho2, e2, a2, hp2, rfl⟩ | ⟨hne2, rfl⟩
    · have ho : o1 = o2 := (nI_eq (by omega) (by omega)).mp (e1.symm.trans e2)
      subst ho
      refine W.eq (g2 := F0 m 1131 ls [.int (if a2 o1 < 16 then nI (a2 o1) else -1), .int (cNr (rkA a1) o1)]) rfl ?_
      refine lv_icmp_eq (tgt := 1370) hx hb dL_law_1131 (by decide) (fun _ => ?_) (fun h9 => absurd (by rw [cNr_a hpA.1 (by omega), hpA.u hp2 o1 (by omega)]) h9)
      exact la_fin C0 hL hi K (hI1.sc haf.s) hw hl (by omega) (by omega)
    · exact absurd e1 (hne2 o1 ho1)
  · have hq2 := hq
    refine W.eq (g2 := F0 m 1122 ls [.int (-2)]) rfl ?_
    refine lv_aload_n hx hb dL_law_1122 rfl (lv_at hl 2 rfl) ?_
    refine la_arg C0 hw (lv_at hl 0 rfl) (lv_at hl 3 rfl) hL hi 1 (by decide) (by decide) dL_law_1123 dL_law_1124 dL_law_1125 dL_law_1126 dL_law_1127 ?_
    refine kV C hw (c_X12_from E tt B F1 G hI.M nc mt hS1.co hS1.on (QR_ok hS1 (fun o ho => hI.R.om4 ho)) (xs (i + 1))) vy_X12_from ml_L_113 (rcv hw (hI.M.m rfl) rfl (by decide) (q2 := (RX12, TX12, 49)) rfl) rfl hl.1 (rest := [.int (-2)]) rfl dL_law_1128 (Nat.le_of_ble_eq_true rfl) ⟨by decide, by decide⟩ ⟨by show _ ≤ 600000; omega, by show _ ≤ 7302250; omega⟩ (fun v1 ws1 H locs hp1 hq1 => ?_)
    clear hw
    obtain ⟨F2, hor2, haf, rfl⟩ := hp1
    have hw := hq1
    rcases hor2 with ⟨o2, ho2, e2, a2, hp2, rfl⟩ | ⟨hne2, rfl⟩
    · exact absurd e2 (hne o2 ho2)
    · have hz := hq
      refine W.eq (g2 := F0 m 1131 ls [.int (-2), .int (-2)]) rfl ?_
      refine lv_icmp_eq (tgt := 1370) hx hb dL_law_1131 (by decide) (fun _ => ?_) (fun h9 => absurd (rfl) h9)
      exact la_fin C0 hL hi K (hI1.sc haf.s) hw hl (by omega) (by omega)
set_option maxHeartbeats 4000000 in
set_option maxRecDepth 100000 in
theorem law_23 {p : Program} {l : Launch} {e : Env} {s : State} {m : MethodId} {below : List Frame} {meth : Method} {c : Code} {b L : Nat} {xs : Nat → Int32} {E : cE} {tt : Nat × Nat × Nat} {i : Nat} (C0 : lw_At p s m meth c b L xs) (hL : L ≤ 3584) (hi : i + 7 ≤ L) (K : LH p l e s m below meth c b E tt (i + 7) 18) : LH p l e s m below meth c b E tt i 1136 := by
  intro X B F G P nh nc no nn mt om H locs ls hI hw hl
  have hx := C0.1
  have hb := C0.2.1
  have C := LAc C0
  refine lv_aload_n hx hb dL_law_1136 rfl (lv_at hl 1 rfl) ?_
  refine kV C hw (c_X11_cut E tt B F G hI.R hI.ck hI.q (fun a ha i hi h16 => cut_fc hI.gi hI.go ha hi h16)) vy_X11_cut ml_L_114 (rcv hw (hI.R.f rfl) rfl (by decide) (q2 := (RX11, TX11, 19)) rfl) rfl hl.1 (rest := []) rfl dL_law_1137 (Nat.le_of_ble_eq_true rfl) ⟨by decide, by decide⟩ ⟨by show _ ≤ 600000; omega, by show _ ≤ 7302250; omega⟩ (fun v0 ws0 H locs hp0 hq0 => ?_)
  clear hw
  obtain ⟨F1, G1, a1, ho1, rfl, hk, hkg, hv, hvg, rfl⟩ := hp0
  have hw := hq0
  have hS1 := hI.S.k hk.1 hkg
  have hq : qV (vF F) (vG G) nc no mt om = qV F1 G1 nc no mt om := show _ = qV (rF F1) (rG G1) nc no mt om by rw [hI.v, hI.vg, rF_eq hk.1, rG_eq hkg]
  rw [hq] at ho1
  refine W.eq (g2 := F0 m 1140 ls [.int (nI (cW (vF F) (vG G) a1 6).2.2)]) rfl ?_
  refine lv_aload_n hx hb dL_law_1140 rfl (lv_at hl 2 rfl) ?_
  refine kV C hw (c_X12_cut E tt B F1 G1 hI.M nc mt hS1.co hS1.on (QR_ok hS1 (fun o ho => hI.R.om4 ho)) (fun a ha o ho h => (Vd_there ha ho h).1) (fun a ha o ho h => cut_pos hS1.1 hS1.2.1 ha ho h)) vy_X12_cut ml_L_117 (rcv hw (hI.M.m rfl) rfl (by decide) (q2 := (RX12, TX12, 49)) rfl) rfl hl.1 (rest := [.int (nI (cW (vF F) (vG G) a1 6).2.2)]) rfl dL_law_1141 (Nat.le_of_ble_eq_true rfl) ⟨by decide, by decide⟩ ⟨by show _ ≤ 600000; omega, by show _ ≤ 7302250; omega⟩ (fun v1 ws1 H locs hp1 hq1 => ?_)
  clear hw
  obtain ⟨F2, a2, ho2, rfl, haf, rfl⟩ := hp1
  have hw := hq1
  refine W.eq (g2 := F0 m 1144 ls [.int (nI (cW F1 G1 a2 6).2.2), .int (nI (cW (vF F) (vG G) a1 6).2.2)]) rfl ?_
  have hcW : cW (vF F) (vG G) a1 6 = (rF (cW F1 G1 a2 6).1, rG (cW F1 G1 a2 6).2.1, (cW F1 G1 a2 6).2.2) := by rw [cW_cg _ _ 6 (ho1.u ho2), hI.v, hI.vg, ← rF_eq hk.1, ← rG_eq hkg, r_cW]
  have hI1 := hI.view hk.w (lo_cW F1 G1 a2 6).1 ((lo_cW F1 G1 a2 6).2.tr (lg_trG F1 (cW F1 G1 a2 6).2.1 a2 16)) (by rw [hv, hcW]) (by rw [hvg, hcW, trG_cg _ _ (ho1.u ho2), hI.v, ← rF_eq hk.1, r_trG]) (RS_cut hS1 ho2.1) (Or.inl rfl)
  refine lv_icmp_eq (tgt := 1370) hx hb dL_law_1144 (by decide) (fun _ => ?_) (fun h9 => absurd (by rw [hcW]) h9)
  exact la_fin C0 hL hi K (hI1.sc haf.s) hw hl (by omega) (by omega)
set_option maxHeartbeats 4000000 in
set_option maxRecDepth 100000 in
theorem law_24 {p : Program} {l : Launch} {e : Env} {s : State} {m : MethodId} {below : List Frame} {meth : Method} {c : Code} {b L : Nat} {xs : Nat → Int32} {E : cE} {tt : Nat × Nat × Nat} {i : Nat} (C0 : lw_At p s m meth c b L xs) (hL : L ≤ 3584) (hi : i + 7 ≤ L) (K : LH p l e s m below meth c b E tt (i + 7) 18) : LH p l e s m below meth c b E tt i 1149 := by
  intro X B F G P nh nc no nn mt om H locs ls hI hw hl
  have hx := C0.1
  have hb := C0.2.1
  have C := LAc C0
  refine lv_aload_n hx hb dL_law_1149 rfl (lv_at hl 1 rfl) ?_
  refine la_arg C0 hw (lv_at hl 0 rfl) (lv_at hl 3 rfl) hL hi 1 (by decide) (by decide) dL_law_1150 dL_law_1151 dL_law_1152 dL_law_1153 dL_law_1154 ?_
  refine kV C hw (c_X11_filled E tt B F G hI.R (xs (i + 1))) vy_X11_filled ml_L_118 (rcv hw (hI.R.f rfl) rfl (by decide) (q2 := (RX11, TX11, 19)) rfl) rfl hl.1 (rest := []) rfl dL_law_1155 (Nat.le_of_ble_eq_true rfl) ⟨by decide, by decide⟩ ⟨by show _ ≤ 600000; omega, by show _ ≤ 7302250; omega⟩ (fun v0 ws0 H locs hp0 hq0 => ?_)
  clear hw
  obtain ⟨rfl, rfl⟩ := hp0
  have hw := hq0
  refine W.eq (g2 := F0 m 1158 ls [.int (sp_filled (vF F) no (xs (i + 1)))]) rfl ?_
  refine lv_aload_n hx hb dL_law_1158 rfl (lv_at hl 2 rfl) ?_
  refine la_arg C0 hw (lv_at hl 0 rfl) (lv_at hl 3 rfl) hL hi 1 (by decide) (by decide) dL_law_1159 dL_law_1160 dL_law_1161 dL_law_1162 dL_law_1163 ?_
  refine kV C hw (c_X12_filled E tt B F G hI.M no hI.S.on (xs (i + 1))) vy_X12_filled ml_L_121 (rcv hw (hI.M.m rfl) rfl (by decide) (q2 := (RX12, TX12, 49)) rfl) rfl hl.1 (rest := [.int (sp_filled (vF F) no (xs (i + 1)))]) rfl dL_law_1164 (Nat.le_of_ble_eq_true rfl) ⟨by decide, by decide⟩ ⟨by show _ ≤ 600000; omega, by show _ ≤ 7302250; omega⟩ (fun v1 ws1 H locs hp1 hq1 => ?_)
  clear hw
  obtain ⟨rfl, rfl⟩ := hp1
  have hw := hq1
  refine W.eq (g2 := F0 m 1167 ls [.int (sp_filled F no (xs (i + 1))), .int (sp_filled (vF F) no (xs (i + 1)))]) rfl ?_
  refine lv_icmp_eq (tgt := 1370) hx hb dL_law_1167 (by decide) (fun _ => ?_) (fun h9 => absurd (show sp_filled (vF F) no (xs (i + 1)) = sp_filled (rF F) no (xs (i + 1)) by rw [hI.v]) h9)
  exact la_fin C0 hL hi K hI hw hl (by omega) (by omega)
set_option maxHeartbeats 4000000 in
set_option maxRecDepth 100000 in
theorem law_25 {p : Program} {l : Launch} {e : Env} {s : State} {m : MethodId} {below : List Frame} {meth : Method} {c : Code} {b L : Nat} {xs : Nat → Int32} {E : cE} {tt : Nat × Nat × Nat} {i : Nat} (C0 : lw_At p s m meth c b L xs) (hL : L ≤ 3584) (hi : i + 7 ≤ L) (K : LH p l e s m below meth c b E tt (i + 7) 18) : LH p l e s m below meth c b E tt i 1172 := by
  intro X B F G P nh nc no nn mt om H locs ls hI hw hl
  have hx := C0.1
  have hb := C0.2.1
  have C := LAc C0
  refine lv_aload_n hx hb dL_law_1172 rfl (lv_at hl 1 rfl) ?_
  refine la_arg C0 hw (lv_at hl 0 rfl) (lv_at hl 3 rfl) hL hi 1 (by decide) (by decide) dL_law_1173 dL_law_1174 dL_law_1175 dL_law_1176 dL_law_1177 ?_
  refine la_arg C0 hw (lv_at hl 0 rfl) (lv_at hl 3 rfl) hL hi 2 (by decide) (by decide) dL_law_1178 dL_law_1179 dL_law_1180 dL_law_1181 dL_law_1182 ?_
  refine la_bool C0 dL_law_1183 dL_law_1186 dL_law_1187 dL_law_1190 ?_
  refine kV C hw (c_X11_note E tt B F G hI.R (nn := nn) hI.nk (xs (i + 1)) (bz (xs (i + 2)))) vy_X11_note ml_L_122 (rcv hw (hI.R.f rfl) rfl (by decide) (q2 := (RX11, TX11, 19)) rfl) rfl hl.1 (rest := []) rfl dL_law_1191 (Nat.le_of_ble_eq_true rfl) ⟨by decide, by decide⟩ ⟨by show _ ≤ 600000; omega, by show _ ≤ 7302250; omega⟩ (fun v0 ws0 H locs hp0 hq0 => ?_)
  clear hw
  obtain ⟨rfl, hor⟩ := hp0
  have hw := hq0
  rcases hor with ⟨hok, rfl⟩ | ⟨hno, rfl⟩
  · obtain ⟨b0, hb0, eb⟩ := n_of (n := 7) hok.1.1 hok.1.2 (by decide)
    have h60 := hI.S.n_n.2
    have hne := hok.2
    have hI2 := hI.note (b0 := b0) (by omega) (by omega) (k0 := bz (xs (i + 2)))
    have hn1 : NN (uF (if bz (xs (i + 2)) = 0 then uF F 78 (xs (i + 1)).toNatClampNeg (nI (cN F (xs (i + 1)).toNatClampNeg true nn + 1)) else uF F 77 (xs (i + 1)).toNatClampNeg (nI (cN F (xs (i + 1)).toNatClampNeg false nn + 1))) 76 2 (nI (nn + 1))) nn := ⟨by rw [uF_o _ _ _ (by decide)]; split <;> rw [uF_o _ _ _ (by decide)] <;> exact hI.S.n_n.1, hI.S.n_n.2⟩
    refine W.eq (g2 := F0 m 1194 ls [.int (sp_note nn (xs (i + 1)))]) rfl ?_
    refine lv_aload_n hx hb dL_law_1194 rfl (lv_at hl 2 rfl) ?_
    refine la_arg C0 hw (lv_at hl 0 rfl) (lv_at hl 3 rfl) hL hi 1 (by decide) (by decide) dL_law_1195 dL_law_1196 dL_law_1197 dL_law_1198 dL_law_1199 ?_
    refine la_arg C0 hw (lv_at hl 0 rfl) (lv_at hl 3 rfl) hL hi 2 (by decide) (by decide) dL_law_1200 dL_law_1201 dL_law_1202 dL_law_1203 dL_law_1204 ?_
    refine la_bool C0 dL_law_1205 dL_law_1208 dL_law_1209 dL_law_1212 ?_
    refine kV C hw (c_X12_note E tt B _ G hI.M nn hn1 (xs (i + 1)) (bz (xs (i + 2))) (bz_n _)) vy_X12_note ml_L_126 (rcv hw (hI.M.m rfl) rfl (by decide) (q2 := (RX12, TX12, 49)) rfl) rfl hl.1 (rest := [.int (sp_note nn (xs (i + 1)))]) rfl dL_law_1213 (Nat.le_of_ble_eq_true rfl) ⟨by decide, by decide⟩ ⟨by show _ ≤ 600000; omega, by show _ ≤ 7302250; omega⟩ (fun v1 ws1 H locs hp1 hq1 => ?_)
    clear hw
    obtain ⟨rfl, rfl⟩ := hp1
    have hw := hq1
    refine W.eq (g2 := F0 m 1216 ls [.int (sp_note nn (xs (i + 1))), .int (sp_note nn (xs (i + 1)))]) rfl ?_
    rw [eb, i4_cl (by omega)] at hw
    refine lv_icmp_eq (tgt := 1370) hx hb dL_law_1216 (by decide) (fun _ => ?_) (fun h9 => absurd (rfl) h9)
    exact la_fin C0 hL hi K hI2 hw hl (by omega) (by omega)
  · have hz := hno
    refine W.eq (g2 := F0 m 1194 ls [.int (sp_note nn (xs (i + 1)))]) rfl ?_
    refine lv_aload_n hx hb dL_law_1194 rfl (lv_at hl 2 rfl) ?_
    refine la_arg C0 hw (lv_at hl 0 rfl) (lv_at hl 3 rfl) hL hi 1 (by decide) (by decide) dL_law_1195 dL_law_1196 dL_law_1197 dL_law_1198 dL_law_1199 ?_
    refine la_arg C0 hw (lv_at hl 0 rfl) (lv_at hl 3 rfl) hL hi 2 (by decide) (by decide) dL_law_1200 dL_law_1201 dL_law_1202 dL_law_1203 dL_law_1204 ?_
    refine la_bool C0 dL_law_1205 dL_law_1208 dL_law_1209 dL_law_1212 ?_
    refine kV C hw (c_X12_note E tt B F G hI.M nn hI.S.n_n (xs (i + 1)) (bz (xs (i + 2))) (bz_n _)) vy_X12_note ml_L_126 (rcv hw (hI.M.m rfl) rfl (by decide) (q2 := (RX12, TX12, 49)) rfl) rfl hl.1 (rest := [.int (sp_note nn (xs (i + 1)))]) rfl dL_law_1213 (Nat.le_of_ble_eq_true rfl) ⟨by decide, by decide⟩ ⟨by show _ ≤ 600000; omega, by show _ ≤ 7302250; omega⟩ (fun v1 ws1 H locs hp1 hq1 => ?_)
    clear hw
    obtain ⟨rfl, rfl⟩ := hp1
    have hw := hq1
    rw [st_note, if_neg hno] at hw
    refine W.eq (g2 := F0 m 1216 ls [.int (sp_note nn (xs (i + 1))), .int (sp_note nn (xs (i + 1)))]) rfl ?_
    refine lv_icmp_eq (tgt := 1370) hx hb dL_law_1216 (by decide) (fun _ => ?_) (fun h9 => absurd (rfl) h9)
    exact la_fin C0 hL hi K hI hw hl (by omega) (by omega)
set_option maxHeartbeats 4000000 in
set_option maxRecDepth 100000 in
theorem law_26 {p : Program} {l : Launch} {e : Env} {s : State} {m : MethodId} {below : List Frame} {meth : Method} {c : Code} {b L : Nat} {xs : Nat → Int32} {E : cE} {tt : Nat × Nat × Nat} {i : Nat} (C0 : lw_At p s m meth c b L xs) (hL : L ≤ 3584) (hi : i + 7 ≤ L) (K : LH p l e s m below meth c b E tt (i + 7) 18) : LH p l e s m below meth c b E tt i 1221 := by
  intro X B F G P nh nc no nn mt om H locs ls hI hw hl
  have hx := C0.1
  have hb := C0.2.1
  have C := LAc C0
  refine lv_aload_n hx hb dL_law_1221 rfl (lv_at hl 1 rfl) ?_
  refine la_arg C0 hw (lv_at hl 0 rfl) (lv_at hl 3 rfl) hL hi 1 (by decide) (by decide) dL_law_1222 dL_law_1223 dL_law_1224 dL_law_1225 dL_law_1226 ?_
  refine la_arg C0 hw (lv_at hl 0 rfl) (lv_at hl 3 rfl) hL hi 2 (by decide) (by decide) dL_law_1227 dL_law_1228 dL_law_1229 dL_law_1230 dL_law_1231 ?_
  refine kV C hw (c_X11_tally E tt B F G hI.R (nn := nn) hI.nk (xs (i + 1)) (xs (i + 2))) vy_X11_tally ml_L_127 (rcv hw (hI.R.f rfl) rfl (by decide) (q2 := (RX11, TX11, 19)) rfl) rfl hl.1 (rest := []) rfl dL_law_1232 (Nat.le_of_ble_eq_true rfl) ⟨by decide, by decide⟩ ⟨by show _ ≤ 600000; omega, by show _ ≤ 7302250; omega⟩ (fun v0 ws0 H locs hp0 hq0 => ?_)
  clear hw
  obtain ⟨rfl, rfl⟩ := hp0
  have hw := hq0
  refine W.eq (g2 := F0 m 1235 ls [.int (sp_tally F nn (xs (i + 1)) (xs (i + 2)))]) rfl ?_
  refine lv_aload_n hx hb dL_law_1235 rfl (lv_at hl 2 rfl) ?_
  refine la_arg C0 hw (lv_at hl 0 rfl) (lv_at hl 3 rfl) hL hi 1 (by decide) (by decide) dL_law_1236 dL_law_1237 dL_law_1238 dL_law_1239 dL_law_1240 ?_
  refine la_arg C0 hw (lv_at hl 0 rfl) (lv_at hl 3 rfl) hL hi 2 (by decide) (by decide) dL_law_1241 dL_law_1242 dL_law_1243 dL_law_1244 dL_law_1245 ?_
  refine kV C hw (c_X12_tally E tt B F G hI.M nn hI.S.n_n (xs (i + 1)) (xs (i + 2))) vy_X12_tally ml_L_130 (rcv hw (hI.M.m rfl) rfl (by decide) (q2 := (RX12, TX12, 49)) rfl) rfl hl.1 (rest := [.int (sp_tally F nn (xs (i + 1)) (xs (i + 2)))]) rfl dL_law_1246 (Nat.le_of_ble_eq_true rfl) ⟨by decide, by decide⟩ ⟨by show _ ≤ 600000; omega, by show _ ≤ 7302250; omega⟩ (fun v1 ws1 H locs hp1 hq1 => ?_)
  clear hw
  obtain ⟨rfl, rfl⟩ := hp1
  have hw := hq1
  refine W.eq (g2 := F0 m 1249 ls [.int (sp_tally F nn (xs (i + 1)) (xs (i + 2))), .int (sp_tally F nn (xs (i + 1)) (xs (i + 2)))]) rfl ?_
  refine lv_icmp_eq (tgt := 1370) hx hb dL_law_1249 (by decide) (fun _ => ?_) (fun h9 => absurd (rfl) h9)
  exact la_fin C0 hL hi K hI hw hl (by omega) (by omega)
set_option maxHeartbeats 4000000 in
set_option maxRecDepth 100000 in
theorem law_27 {p : Program} {l : Launch} {e : Env} {s : State} {m : MethodId} {below : List Frame} {meth : Method} {c : Code} {b L : Nat} {xs : Nat → Int32} {E : cE} {tt : Nat × Nat × Nat} {i : Nat} (C0 : lw_At p s m meth c b L xs) (hL : L ≤ 3584) (hi : i + 7 ≤ L) (K : LH p l e s m below meth c b E tt (i + 7) 18) : LH p l e s m below meth c b E tt i 1254 := by
  intro X B F G P nh nc no nn mt om H locs ls hI hw hl
  have hx := C0.1
  have hb := C0.2.1
  have C := LAc C0
  refine lv_aload_n hx hb dL_law_1254 rfl (lv_at hl 1 rfl) ?_
  refine la_arg C0 hw (lv_at hl 0 rfl) (lv_at hl 3 rfl) hL hi 1 (by decide) (by decide) dL_law_1255 dL_law_1256 dL_law_1257 dL_law_1258 dL_law_1259 ?_
  refine la_arg C0 hw (lv_at hl 0 rfl) (lv_at hl 3 rfl) hL hi 2 (by decide) (by decide) dL_law_1260 dL_law_1261 dL_law_1262 dL_law_1263 dL_law_1264 ?_
  refine kV C hw (c_X11_by E tt B F G hI.R (nn := nn) hI.nk (xs (i + 1)) (xs (i + 2))) vy_X11_by ml_L_131 (rcv hw (hI.R.f rfl) rfl (by decide) (q2 := (RX11, TX11, 19)) rfl) rfl hl.1 (rest := []) rfl dL_law_1265 (Nat.le_of_ble_eq_true rfl) ⟨by decide, by decide⟩ ⟨by show _ ≤ 600000; omega, by show _ ≤ 7302250; omega⟩ (fun v0 ws0 H locs hp0 hq0 => ?_)
  clear hw
  obtain ⟨rfl, rfl⟩ := hp0
  have hw := hq0
  refine W.eq (g2 := F0 m 1268 ls [.int (sp_byC F nn (xs (i + 1)) (xs (i + 2)))]) rfl ?_
  refine lv_aload_n hx hb dL_law_1268 rfl (lv_at hl 2 rfl) ?_
  refine la_arg C0 hw (lv_at hl 0 rfl) (lv_at hl 3 rfl) hL hi 1 (by decide) (by decide) dL_law_1269 dL_law_1270 dL_law_1271 dL_law_1272 dL_law_1273 ?_
  refine la_arg C0 hw (lv_at hl 0 rfl) (lv_at hl 3 rfl) hL hi 2 (by decide) (by decide) dL_law_1274 dL_law_1275 dL_law_1276 dL_law_1277 dL_law_1278 ?_
  refine kV C hw (c_X12_by E tt B F G hI.M nn hI.S.n_n (xs (i + 1)) (xs (i + 2))) vy_X12_by ml_L_134 (rcv hw (hI.M.m rfl) rfl (by decide) (q2 := (RX12, TX12, 49)) rfl) rfl hl.1 (rest := [.int (sp_byC F nn (xs (i + 1)) (xs (i + 2)))]) rfl dL_law_1279 (Nat.le_of_ble_eq_true rfl) ⟨by decide, by decide⟩ ⟨by show _ ≤ 600000; omega, by show _ ≤ 7302250; omega⟩ (fun v1 ws1 H locs hp1 hq1 => ?_)
  clear hw
  obtain ⟨rfl, rfl⟩ := hp1
  have hw := hq1
  refine W.eq (g2 := F0 m 1282 ls [.int (sp_by F nn (xs (i + 1)) (xs (i + 2))), .int (sp_byC F nn (xs (i + 1)) (xs (i + 2)))]) rfl ?_
  refine lv_icmp_eq (tgt := 1370) hx hb dL_law_1282 (by decide) (fun _ => ?_) (fun h9 => absurd (by_eq hI.S.n_n.2 (xs (i + 1)) (xs (i + 2))) h9)
  exact la_fin C0 hL hi K hI hw hl (by omega) (by omega)
set_option maxHeartbeats 4000000 in
set_option maxRecDepth 100000 in
theorem law_28 {p : Program} {l : Launch} {e : Env} {s : State} {m : MethodId} {below : List Frame} {meth : Method} {c : Code} {b L : Nat} {xs : Nat → Int32} {E : cE} {tt : Nat × Nat × Nat} {i : Nat} (C0 : lw_At p s m meth c b L xs) (hL : L ≤ 3584) (hi : i + 7 ≤ L) (K : LH p l e s m below meth c b E tt (i + 7) 18) : LH p l e s m below meth c b E tt i 1287 := by
  intro X B F G P nh nc no nn mt om H locs ls hI hw hl
  have hx := C0.1
  have hb := C0.2.1
  have C := LAc C0
  refine lv_aload_n hx hb dL_law_1287 rfl (lv_at hl 1 rfl) ?_
  refine la_arg C0 hw (lv_at hl 0 rfl) (lv_at hl 3 rfl) hL hi 1 (by decide) (by decide) dL_law_1288 dL_law_1289 dL_law_1290 dL_law_1291 dL_law_1292 ?_
  refine kV C hw (c_X11_chance E tt B F G hI.R (nn := nn) hI.nk (xs (i + 1))) vy_X11_chance ml_L_135 (rcv hw (hI.R.f rfl) rfl (by decide) (q2 := (RX11, TX11, 19)) rfl) rfl hl.1 (rest := []) rfl dL_law_1293 (Nat.le_of_ble_eq_true rfl) ⟨by decide, by decide⟩ ⟨by show _ ≤ 600000; omega, by show _ ≤ 7302250; omega⟩ (fun v0 ws0 H locs hp0 hq0 => ?_)
  clear hw
  obtain ⟨rfl, rfl⟩ := hp0
  have hw := hq0
  refine W.eq (g2 := F0 m 1296 ls [.int (sp_chanceC F nn (xs (i + 1)))]) rfl ?_
  refine lv_aload_n hx hb dL_law_1296 rfl (lv_at hl 2 rfl) ?_
  refine la_arg C0 hw (lv_at hl 0 rfl) (lv_at hl 3 rfl) hL hi 1 (by decide) (by decide) dL_law_1297 dL_law_1298 dL_law_1299 dL_law_1300 dL_law_1301 ?_
  refine kV C hw (c_X12_chance E tt B F G hI.M nn hI.S.n_n (xs (i + 1))) vy_X12_chance ml_L_138 (rcv hw (hI.M.m rfl) rfl (by decide) (q2 := (RX12, TX12, 49)) rfl) rfl hl.1 (rest := [.int (sp_chanceC F nn (xs (i + 1)))]) rfl dL_law_1302 (Nat.le_of_ble_eq_true rfl) ⟨by decide, by decide⟩ ⟨by show _ ≤ 600000; omega, by show _ ≤ 7302250; omega⟩ (fun v1 ws1 H locs hp1 hq1 => ?_)
  clear hw
  obtain ⟨rfl, G2, hg2, rfl⟩ := hp1
  have hw := hq1
  refine W.eq (g2 := F0 m 1305 ls [.int (sp_chance F nn (xs (i + 1))), .int (sp_chanceC F nn (xs (i + 1)))]) rfl ?_
  refine lv_icmp_eq (tgt := 1370) hx hb dL_law_1305 (by decide) (fun _ => ?_) (fun h9 => absurd (chance_eq hI.S.n_n.2 (xs (i + 1))) h9)
  exact la_fin C0 hL hi K (hI.sg hg2) hw hl (by omega) (by omega)
set_option maxHeartbeats 4000000 in
set_option maxRecDepth 100000 in
theorem law_29 {p : Program} {l : Launch} {e : Env} {s : State} {m : MethodId} {below : List Frame} {meth : Method} {c : Code} {b L : Nat} {xs : Nat → Int32} {E : cE} {tt : Nat × Nat × Nat} {i : Nat} (C0 : lw_At p s m meth c b L xs) (hL : L ≤ 3584) (hi : i + 7 ≤ L) (K : LH p l e s m below meth c b E tt (i + 7) 18) : LH p l e s m below meth c b E tt i 1310 := by
  intro X B F G P nh nc no nn mt om H locs ls hI hw hl
  have hx := C0.1
  have hb := C0.2.1
  have C := LAc C0
  refine lv_aload_n hx hb dL_law_1310 rfl (lv_at hl 1 rfl) ?_
  refine kV C hw (c_X11_cause E tt B F G hI.R (nn := nn) hI.nk ) vy_X11_cause ml_L_139 (rcv hw (hI.R.f rfl) rfl (by decide) (q2 := (RX11, TX11, 19)) rfl) rfl hl.1 (rest := []) rfl dL_law_1311 (Nat.le_of_ble_eq_true rfl) ⟨by decide, by decide⟩ ⟨by show _ ≤ 600000; omega, by show _ ≤ 7302250; omega⟩ (fun v0 ws0 H locs hp0 hq0 => ?_)
  clear hw
  obtain ⟨rfl, rfl⟩ := hp0
  have hw := hq0
  refine W.eq (g2 := F0 m 1314 ls [.int (w_fndC F nn 3)]) rfl ?_
  refine lv_aload_n hx hb dL_law_1314 rfl (lv_at hl 2 rfl) ?_
  refine kV C hw (c_X12_cause E tt B F G hI.M nn hI.S.n_n ) vy_X12_cause ml_L_142 (rcv hw (hI.M.m rfl) rfl (by decide) (q2 := (RX12, TX12, 49)) rfl) rfl hl.1 (rest := [.int (w_fndC F nn 3)]) rfl dL_law_1315 (Nat.le_of_ble_eq_true rfl) ⟨by decide, by decide⟩ ⟨by show _ ≤ 600000; omega, by show _ ≤ 7302250; omega⟩ (fun v1 ws1 H locs hp1 hq1 => ?_)
  clear hw
  obtain ⟨rfl, G2, hg2, rfl⟩ := hp1
  have hw := hq1
  refine W.eq (g2 := F0 m 1318 ls [.int (w_fnd F nn 3), .int (w_fndC F nn 3)]) rfl ?_
  refine lv_icmp_eq (tgt := 1370) hx hb dL_law_1318 (by decide) (fun _ => ?_) (fun h9 => absurd (fnd_eq hI.S.n_n.2 3 (Nat.le_refl 3)) h9)
  exact la_fin C0 hL hi K (hI.sg hg2) hw hl (by omega) (by omega)
set_option maxHeartbeats 4000000 in
set_option maxRecDepth 100000 in
theorem law_30 {p : Program} {l : Launch} {e : Env} {s : State} {m : MethodId} {below : List Frame} {meth : Method} {c : Code} {b L : Nat} {xs : Nat → Int32} {E : cE} {tt : Nat × Nat × Nat} {i : Nat} (C0 : lw_At p s m meth c b L xs) (hL : L ≤ 3584) (hi : i + 7 ≤ L) (K : LH p l e s m below meth c b E tt (i + 7) 18) : LH p l e s m below meth c b E tt i 1323 := by
  intro X B F G P nh nc no nn mt om H locs ls hI hw hl
  have hx := C0.1
  have hb := C0.2.1
  have C := LAc C0
  refine lv_aload_n hx hb dL_law_1323 rfl (lv_at hl 1 rfl) ?_
  refine la_arg C0 hw (lv_at hl 0 rfl) (lv_at hl 3 rfl) hL hi 1 (by decide) (by decide) dL_law_1324 dL_law_1325 dL_law_1326 dL_law_1327 dL_law_1328 ?_
  refine kV C hw (c_X11_account E tt B F G hI.R (xs (i + 1))) vy_X11_account ml_L_143 (rcv hw (hI.R.f rfl) rfl (by decide) (q2 := (RX11, TX11, 19)) rfl) rfl hl.1 (rest := []) rfl dL_law_1329 (Nat.le_of_ble_eq_true rfl) ⟨by decide, by decide⟩ ⟨by show _ ≤ 600000; omega, by show _ ≤ 7302250; omega⟩ (fun v0 ws0 H locs hp0 hq0 => ?_)
  clear hw
  obtain ⟨rfl, rfl⟩ := hp0
  have hw := hq0
  refine W.eq (g2 := F0 m 1332 ls [.long (sp_account (vG G) nc (xs (i + 1)))]) rfl ?_
  refine lv_aload_n hx hb dL_law_1332 rfl (lv_at hl 2 rfl) ?_
  refine la_arg C0 hw (lv_at hl 0 rfl) (lv_at hl 3 rfl) hL hi 1 (by decide) (by decide) dL_law_1333 dL_law_1334 dL_law_1335 dL_law_1336 dL_law_1337 ?_
  refine kV C hw (c_X12_account E tt B F G hI.M nc mt hI.S.co (xs (i + 1))) vy_X12_account ml_L_146 (rcv hw (hI.M.m rfl) rfl (by decide) (q2 := (RX12, TX12, 49)) rfl) rfl hl.1 (rest := [.long (sp_account (vG G) nc (xs (i + 1)))]) rfl dL_law_1338 (Nat.le_of_ble_eq_true rfl) ⟨by decide, by decide⟩ ⟨by show _ ≤ 600000; omega, by show _ ≤ 7302250; omega⟩ (fun v1 ws1 H locs hp1 hq1 => ?_)
  clear hw
  obtain ⟨rfl, rfl⟩ := hp1
  have hw := hq1
  refine W.eq (g2 := F0 m 1341 ls [.long (sp_account G nc (xs (i + 1))), .long (sp_account (vG G) nc (xs (i + 1)))]) rfl ?_
  refine W.lcmp hx hb dL_law_1341 ?_
  refine lv_if_eq (tgt := 1370) hx hb dL_law_1342 (by decide) (fun _ => ?_) (fun h9 => absurd (show lg_cmp (sp_account (vG G) nc (xs (i + 1))) (sp_account G nc (xs (i + 1))) = 0 by rw [show (sp_account (vG G) nc (xs (i + 1))) = (sp_account G nc (xs (i + 1))) from (show sp_account (vG G) nc (xs (i + 1)) = sp_account (rG G) nc (xs (i + 1)) by rw [hI.vg])]; exact lg_cmp_self _) h9)
  exact la_fin C0 hL hi K hI hw hl (by omega) (by omega)
set_option maxHeartbeats 4000000 in
set_option maxRecDepth 100000 in
theorem law_31 {p : Program} {l : Launch} {e : Env} {s : State} {m : MethodId} {below : List Frame} {meth : Method} {c : Code} {b L : Nat} {xs : Nat → Int32} {E : cE} {tt : Nat × Nat × Nat} {i : Nat} (C0 : lw_At p s m meth c b L xs) (hL : L ≤ 3584) (hi : i + 7 ≤ L) (K : LH p l e s m below meth c b E tt (i + 7) 18) : LH p l e s m below meth c b E tt i 1347 := by
  intro X B F G P nh nc no nn mt om H locs ls hI hw hl
  have hx := C0.1
  have hb := C0.2.1
  have C := LAc C0
  refine lv_aload_n hx hb dL_law_1347 rfl (lv_at hl 1 rfl) ?_
  refine la_arg C0 hw (lv_at hl 0 rfl) (lv_at hl 3 rfl) hL hi 1 (by decide) (by decide) dL_law_1348 dL_law_1349 dL_law_1350 dL_law_1351 dL_law_1352 ?_
  refine kV C hw (c_X11_count E tt B F G hI.R hI.ck (nn := nn) hI.n_c hI.n_o hI.n_n (xs (i + 1))) vy_X11_count ml_L_147 (rcv hw (hI.R.f rfl) rfl (by decide) (q2 := (RX11, TX11, 19)) rfl) rfl hl.1 (rest := []) rfl dL_law_1353 (Nat.le_of_ble_eq_true rfl) ⟨by decide, by decide⟩ ⟨by show _ ≤ 600000; omega, by show _ ≤ 7302250; omega⟩ (fun v0 ws0 H locs hp0 hq0 => ?_)
  clear hw
  obtain ⟨rfl, rfl⟩ := hp0
  have hw := hq0
  refine W.eq (g2 := F0 m 1356 ls [.int (sp_count (vF F) (vG G) nc no nn (xs (i + 1)))]) rfl ?_
  refine lv_aload_n hx hb dL_law_1356 rfl (lv_at hl 2 rfl) ?_
  refine la_arg C0 hw (lv_at hl 0 rfl) (lv_at hl 3 rfl) hL hi 1 (by decide) (by decide) dL_law_1357 dL_law_1358 dL_law_1359 dL_law_1360 dL_law_1361 ?_
  refine kV C hw (c_X12_count E tt B F G hI.M nc mt hI.S.co no hI.S.on nn hI.S.n_n (xs (i + 1))) vy_X12_count ml_L_150 (rcv hw (hI.M.m rfl) rfl (by decide) (q2 := (RX12, TX12, 49)) rfl) rfl hl.1 (rest := [.int (sp_count (vF F) (vG G) nc no nn (xs (i + 1)))]) rfl dL_law_1362 (Nat.le_of_ble_eq_true rfl) ⟨by decide, by decide⟩ ⟨by show _ ≤ 600000; omega, by show _ ≤ 7302250; omega⟩ (fun v1 ws1 H locs hp1 hq1 => ?_)
  clear hw
  obtain ⟨rfl, rfl⟩ := hp1
  have hw := hq1
  refine W.eq (g2 := F0 m 1365 ls [.int (sp_count F G nc no nn (xs (i + 1))), .int (sp_count (vF F) (vG G) nc no nn (xs (i + 1)))]) rfl ?_
  refine lv_icmp_eq (tgt := 1370) hx hb dL_law_1365 (by decide) (fun _ => ?_) (fun h9 => absurd (show sp_count (vF F) (vG G) nc no nn (xs (i + 1)) = sp_count (rF F) (rG G) nc no nn (xs (i + 1)) by rw [hI.v, hI.vg]) h9)
  exact la_fin C0 hL hi K hI hw hl (by omega) (by omega)
