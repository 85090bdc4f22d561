section LAWC
variable {p : Program} {l : Launch} {e : Env} {s : State} {m : MethodId} {below : List Frame} {meth : Method} {c : Code} {D : va_G} {cA : Nat → ClassId} {σ : Nat → Nat} {b L : Nat} {xs : Nat → Int32} {i cells slots oA : Nat} {K : Fin 2 → Option Fo} {s0 : Fo} {ρX ρM : Nat → Nat} {v : Value} {μX μM : mm_U} {R : va_W} {H : Heap} {locs : List Loc} {ls : Array Slot} {Q : State → Prop}
theorem law_far (C : LCx D cA σ p s m meth c b L xs) (hL : L ≤ 3072) (hi : i + 6 ≤ L) (hcs : cells ≤ 601024 ∧ slots ≤ 7293034) (hl : lv_has ls 7 [(0, .ref b), (1, .ref (ρX 0)), (2, .ref (ρM 0)), (3, .ref oA), (4, .int (nI i))]) (St : LSt K s0 μX μM) (hW : LWs D cA s ρX ρM v μX μM R H locs) (nxt : ∀ (s1 : Fo) (μX1 μM1 : mm_U) (H1 : Heap) (locs1 : List Loc), LSt K s1 μX1 μM1 → LWs D cA s ρX ρM v μX1 μM1 R H1 locs1 → W p l e room_1 s m #[Value.ref b] below meth c H1 locs1 cells slots Q (F0 m 1773 ls [])) : W p l e room_1 s m #[Value.ref b] below meth c H locs cells slots Q (F0 m 859 ls []) := by
  obtain ⟨hI, RX, RM, g0, SX, HK⟩ := id St
  have hx := C.1.1
  have hb := C.1.2.1
  refine lv_aload_n hx hb dL_law_859 rfl (lv_at hl 1 rfl) ?_
  refine law_arg (j := 1) C hW.2.2 (lv_at hl 0 rfl) (lv_at hl 4 rfl) (by omega) hL rfl dL_law_860 dL_law_861 dL_law_863 dL_law_864 dL_law_865 ?_
  refine law_arg (j := 2) C hW.2.2 (lv_at hl 0 rfl) (lv_at hl 4 rfl) (by omega) hL rfl dL_law_866 dL_law_867 dL_law_869 dL_law_870 dL_law_871 ?_
  refine law_x (as := [.int (xs (i + 1)), .int (xs (i + 2))]) (rest := []) C vL_99 (x_far (I := In) (shX_ok v) In_x RX hI _ _) rfl rfl rfl (by decide) ⟨by decide, by decide⟩ hcs hl.1 (by show (0 : Nat) ≤ 8; omega) dL_law_872 hW (fun r μX1 H1 locs1 hq hW1 => ?_)
  obtain ⟨rfl, RX1, hI1⟩ := hq
  refine lv_aload_n hx hb dL_law_875 rfl (lv_at hl 2 rfl) ?_
  refine law_arg (j := 1) C hW1.2.2 (lv_at hl 0 rfl) (lv_at hl 4 rfl) (by omega) hL rfl dL_law_876 dL_law_877 dL_law_879 dL_law_880 dL_law_881 ?_
  refine law_arg (j := 2) C hW1.2.2 (lv_at hl 0 rfl) (lv_at hl 4 rfl) (by omega) hL rfl dL_law_882 dL_law_883 dL_law_885 dL_law_886 dL_law_887 ?_
  refine law_m (as := [.int (xs (i + 1)), .int (xs (i + 2))]) C vL_102 (m_far shM_ok RM hI.1 g0 _ _) rfl rfl rfl (by decide) ⟨by decide, by decide⟩ hcs hl.1 (by show (1 : Nat) ≤ 8; omega) dL_law_888 hW1 (fun r μM1 H2 locs2 hq2 hW2 => ?_)
  have hq3 := hq2
  obtain ⟨rfl, _⟩ := hq2
  refine lv_icmp_eq (tgt := 1773) hx hb dL_law_891 (by decide) (fun _ => ?_) (fun ne => absurd rfl ne)
  exact nxt _ _ _ _ _ (St.mt hI1 RX1 hq3) hW2
theorem law_shell (C : LCx D cA σ p s m meth c b L xs) (hL : L ≤ 3072) (hi : i + 6 ≤ L) (hcs : cells ≤ 601024 ∧ slots ≤ 7293034) (hl : lv_has ls 7 [(0, .ref b), (1, .ref (ρX 0)), (2, .ref (ρM 0)), (3, .ref oA), (4, .int (nI i))]) (St : LSt K s0 μX μM) (hW : LWs D cA s ρX ρM v μX μM R H locs) (nxt : ∀ (s1 : Fo) (μX1 μM1 : mm_U) (H1 : Heap) (locs1 : List Loc), LSt K s1 μX1 μM1 → LWs D cA s ρX ρM v μX1 μM1 R H1 locs1 → W p l e room_1 s m #[Value.ref b] below meth c H1 locs1 cells slots Q (F0 m 1773 ls [])) : W p l e room_1 s m #[Value.ref b] below meth c H locs cells slots Q (F0 m 896 ls []) := by
  obtain ⟨hI, RX, RM, g0, SX, HK⟩ := id St
  have hx := C.1.1
  have hb := C.1.2.1
  refine lv_aload_n hx hb dL_law_896 rfl (lv_at hl 1 rfl) ?_
  refine law_arg (j := 1) C hW.2.2 (lv_at hl 0 rfl) (lv_at hl 4 rfl) (by omega) hL rfl dL_law_897 dL_law_898 dL_law_900 dL_law_901 dL_law_902 ?_
  refine law_arg (j := 2) C hW.2.2 (lv_at hl 0 rfl) (lv_at hl 4 rfl) (by omega) hL rfl dL_law_903 dL_law_904 dL_law_906 dL_law_907 dL_law_908 ?_
  refine law_x (as := [.int (xs (i + 1)), .int (xs (i + 2))]) (rest := []) C vL_103 (x_shell (I := In) (shX_ok v) In_x RX hI _ _) rfl rfl rfl (by decide) ⟨by decide, by decide⟩ hcs hl.1 (by show (0 : Nat) ≤ 8; omega) dL_law_909 hW (fun r μX1 H1 locs1 hq hW1 => ?_)
  obtain ⟨rfl, RX1, hI1⟩ := hq
  refine lv_aload_n hx hb dL_law_912 rfl (lv_at hl 2 rfl) ?_
  refine law_arg (j := 1) C hW1.2.2 (lv_at hl 0 rfl) (lv_at hl 4 rfl) (by omega) hL rfl dL_law_913 dL_law_914 dL_law_916 dL_law_917 dL_law_918 ?_
  refine law_arg (j := 2) C hW1.2.2 (lv_at hl 0 rfl) (lv_at hl 4 rfl) (by omega) hL rfl dL_law_919 dL_law_920 dL_law_922 dL_law_923 dL_law_924 ?_
  refine law_m (as := [.int (xs (i + 1)), .int (xs (i + 2))]) C vL_106 (m_shell shM_ok RM hI.1 g0 _ _) rfl rfl rfl (by decide) ⟨by decide, by decide⟩ hcs hl.1 (by show (1 : Nat) ≤ 8; omega) dL_law_925 hW1 (fun r μM1 H2 locs2 hq2 hW2 => ?_)
  have hq3 := hq2
  obtain ⟨rfl, _⟩ := hq2
  refine lv_icmp_eq (tgt := 1773) hx hb dL_law_928 (by decide) (fun _ => ?_) (fun ne => absurd rfl ne)
  exact nxt _ _ _ _ _ (St.mt hI1 RX1 hq3) hW2
theorem law_shellOf (C : LCx D cA σ p s m meth c b L xs) (hL : L ≤ 3072) (hi : i + 6 ≤ L) (hcs : cells ≤ 601024 ∧ slots ≤ 7293034) (hl : lv_has ls 7 [(0, .ref b), (1, .ref (ρX 0)), (2, .ref (ρM 0)), (3, .ref oA), (4, .int (nI i))]) (St : LSt K s0 μX μM) (hW : LWs D cA s ρX ρM v μX μM R H locs) (nxt : ∀ (s1 : Fo) (μX1 μM1 : mm_U) (H1 : Heap) (locs1 : List Loc), LSt K s1 μX1 μM1 → LWs D cA s ρX ρM v μX1 μM1 R H1 locs1 → W p l e room_1 s m #[Value.ref b] below meth c H1 locs1 cells slots Q (F0 m 1773 ls [])) : W p l e room_1 s m #[Value.ref b] below meth c H locs cells slots Q (F0 m 933 ls []) := by
  obtain ⟨hI, RX, RM, g0, SX, HK⟩ := id St
  have hx := C.1.1
  have hb := C.1.2.1
  refine lv_aload_n hx hb dL_law_933 rfl (lv_at hl 1 rfl) ?_
  refine law_arg (j := 1) C hW.2.2 (lv_at hl 0 rfl) (lv_at hl 4 rfl) (by omega) hL rfl dL_law_934 dL_law_935 dL_law_937 dL_law_938 dL_law_939 ?_
  refine law_arg (j := 2) C hW.2.2 (lv_at hl 0 rfl) (lv_at hl 4 rfl) (by omega) hL rfl dL_law_940 dL_law_941 dL_law_943 dL_law_944 dL_law_945 ?_
  refine law_arg (j := 3) C hW.2.2 (lv_at hl 0 rfl) (lv_at hl 4 rfl) (by omega) hL rfl dL_law_946 dL_law_947 dL_law_949 dL_law_950 dL_law_951 ?_
  refine law_x (as := [.int (xs (i + 1)), .int (xs (i + 2)), .int (xs (i + 3))]) (rest := []) C vL_107 (x_shellOf (I := In) (shX_ok v) In_x RX hI _ _ _) rfl rfl rfl (by decide) ⟨by decide, by decide⟩ hcs hl.1 (by show (0 : Nat) ≤ 8; omega) dL_law_952 hW (fun r μX1 H1 locs1 hq hW1 => ?_)
  obtain ⟨rfl, RX1, hI1⟩ := hq
  refine lv_aload_n hx hb dL_law_955 rfl (lv_at hl 2 rfl) ?_
  refine law_arg (j := 1) C hW1.2.2 (lv_at hl 0 rfl) (lv_at hl 4 rfl) (by omega) hL rfl dL_law_956 dL_law_957 dL_law_959 dL_law_960 dL_law_961 ?_
  refine law_arg (j := 2) C hW1.2.2 (lv_at hl 0 rfl) (lv_at hl 4 rfl) (by omega) hL rfl dL_law_962 dL_law_963 dL_law_965 dL_law_966 dL_law_967 ?_
  refine law_arg (j := 3) C hW1.2.2 (lv_at hl 0 rfl) (lv_at hl 4 rfl) (by omega) hL rfl dL_law_968 dL_law_969 dL_law_971 dL_law_972 dL_law_973 ?_
  refine law_m (as := [.int (xs (i + 1)), .int (xs (i + 2)), .int (xs (i + 3))]) C vL_110 (m_shellOf shM_ok RM hI.1 g0 _ _ _) rfl rfl rfl (by decide) ⟨by decide, by decide⟩ hcs hl.1 (by show (1 : Nat) ≤ 8; omega) dL_law_974 hW1 (fun r μM1 H2 locs2 hq2 hW2 => ?_)
  have hq3 := hq2
  obtain ⟨rfl, _⟩ := hq2
  refine lv_icmp_eq (tgt := 1773) hx hb dL_law_977 (by decide) (fun _ => ?_) (fun ne => absurd rfl ne)
  exact nxt _ _ _ _ _ (St.mt hI1 RX1 hq3) hW2
theorem law_way (C : LCx D cA σ p s m meth c b L xs) (hL : L ≤ 3072) (hi : i + 6 ≤ L) (hcs : cells ≤ 601024 ∧ slots ≤ 7293034) (hl : lv_has ls 7 [(0, .ref b), (1, .ref (ρX 0)), (2, .ref (ρM 0)), (3, .ref oA), (4, .int (nI i))]) (St : LSt K s0 μX μM) (hW : LWs D cA s ρX ρM v μX μM R H locs) (nxt : ∀ (s1 : Fo) (μX1 μM1 : mm_U) (H1 : Heap) (locs1 : List Loc), LSt K s1 μX1 μM1 → LWs D cA s ρX ρM v μX1 μM1 R H1 locs1 → W p l e room_1 s m #[Value.ref b] below meth c H1 locs1 cells slots Q (F0 m 1773 ls [])) : W p l e room_1 s m #[Value.ref b] below meth c H locs cells slots Q (F0 m 982 ls []) := by
  obtain ⟨hI, RX, RM, g0, SX, HK⟩ := id St
  have hx := C.1.1
  have hb := C.1.2.1
  refine lv_aload_n hx hb dL_law_982 rfl (lv_at hl 1 rfl) ?_
  refine law_arg (j := 1) C hW.2.2 (lv_at hl 0 rfl) (lv_at hl 4 rfl) (by omega) hL rfl dL_law_983 dL_law_984 dL_law_986 dL_law_987 dL_law_988 ?_
  refine law_arg (j := 2) C hW.2.2 (lv_at hl 0 rfl) (lv_at hl 4 rfl) (by omega) hL rfl dL_law_989 dL_law_990 dL_law_992 dL_law_993 dL_law_994 ?_
  refine law_arg (j := 3) C hW.2.2 (lv_at hl 0 rfl) (lv_at hl 4 rfl) (by omega) hL rfl dL_law_995 dL_law_996 dL_law_998 dL_law_999 dL_law_1000 ?_
  refine law_x (as := [.int (xs (i + 1)), .int (xs (i + 2)), .int (xs (i + 3))]) (rest := []) C vL_111 (x_way (I := In) (shX_ok v) In_x RX hI _ _ _) rfl rfl rfl (by decide) ⟨by decide, by decide⟩ hcs hl.1 (by show (0 : Nat) ≤ 8; omega) dL_law_1001 hW (fun r μX1 H1 locs1 hq hW1 => ?_)
  obtain ⟨rfl, RX1, hI1⟩ := hq
  refine lv_aload_n hx hb dL_law_1004 rfl (lv_at hl 2 rfl) ?_
  refine law_arg (j := 1) C hW1.2.2 (lv_at hl 0 rfl) (lv_at hl 4 rfl) (by omega) hL rfl dL_law_1005 dL_law_1006 dL_law_1008 dL_law_1009 dL_law_1010 ?_
  refine law_arg (j := 2) C hW1.2.2 (lv_at hl 0 rfl) (lv_at hl 4 rfl) (by omega) hL rfl dL_law_1011 dL_law_1012 dL_law_1014 dL_law_1015 dL_law_1016 ?_
  refine law_arg (j := 3) C hW1.2.2 (lv_at hl 0 rfl) (lv_at hl 4 rfl) (by omega) hL rfl dL_law_1017 dL_law_1018 dL_law_1020 dL_law_1021 dL_law_1022 ?_
  refine law_m (as := [.int (xs (i + 1)), .int (xs (i + 2)), .int (xs (i + 3))]) C vL_114 (m_way shM_ok RM hI.1 g0 _ _ _) rfl rfl rfl (by decide) ⟨by decide, by decide⟩ hcs hl.1 (by show (1 : Nat) ≤ 8; omega) dL_law_1023 hW1 (fun r μM1 H2 locs2 hq2 hW2 => ?_)
  have hq3 := hq2
  obtain ⟨rfl, _⟩ := hq2
  refine lv_icmp_eq (tgt := 1773) hx hb dL_law_1026 (by decide) (fun _ => ?_) (fun ne => absurd rfl ne)
  exact nxt _ _ _ _ _ (St.mt hI1 RX1 hq3) hW2
theorem law_mutual (C : LCx D cA σ p s m meth c b L xs) (hL : L ≤ 3072) (hi : i + 6 ≤ L) (hcs : cells ≤ 601024 ∧ slots ≤ 7293034) (hl : lv_has ls 7 [(0, .ref b), (1, .ref (ρX 0)), (2, .ref (ρM 0)), (3, .ref oA), (4, .int (nI i))]) (St : LSt K s0 μX μM) (hW : LWs D cA s ρX ρM v μX μM R H locs) (nxt : ∀ (s1 : Fo) (μX1 μM1 : mm_U) (H1 : Heap) (locs1 : List Loc), LSt K s1 μX1 μM1 → LWs D cA s ρX ρM v μX1 μM1 R H1 locs1 → W p l e room_1 s m #[Value.ref b] below meth c H1 locs1 cells slots Q (F0 m 1773 ls [])) : W p l e room_1 s m #[Value.ref b] below meth c H locs cells slots Q (F0 m 1031 ls []) := by
  obtain ⟨hI, RX, RM, g0, SX, HK⟩ := id St
  have hx := C.1.1
  have hb := C.1.2.1
  refine lv_aload_n hx hb dL_law_1031 rfl (lv_at hl 1 rfl) ?_
  refine law_arg (j := 1) C hW.2.2 (lv_at hl 0 rfl) (lv_at hl 4 rfl) (by omega) hL rfl dL_law_1032 dL_law_1033 dL_law_1035 dL_law_1036 dL_law_1037 ?_
  refine law_arg (j := 2) C hW.2.2 (lv_at hl 0 rfl) (lv_at hl 4 rfl) (by omega) hL rfl dL_law_1038 dL_law_1039 dL_law_1041 dL_law_1042 dL_law_1043 ?_
  refine law_x (as := [.int (xs (i + 1)), .int (xs (i + 2))]) (rest := []) C vL_115 (x_mutual (I := In) (shX_ok v) In_x RX hI _ _) rfl rfl rfl (by decide) ⟨by decide, by decide⟩ hcs hl.1 (by show (0 : Nat) ≤ 8; omega) dL_law_1044 hW (fun r μX1 H1 locs1 hq hW1 => ?_)
  obtain ⟨rfl, RX1, hI1⟩ := hq
  refine lv_aload_n hx hb dL_law_1047 rfl (lv_at hl 2 rfl) ?_
  refine law_arg (j := 1) C hW1.2.2 (lv_at hl 0 rfl) (lv_at hl 4 rfl) (by omega) hL rfl dL_law_1048 dL_law_1049 dL_law_1051 dL_law_1052 dL_law_1053 ?_
  refine law_arg (j := 2) C hW1.2.2 (lv_at hl 0 rfl) (lv_at hl 4 rfl) (by omega) hL rfl dL_law_1054 dL_law_1055 dL_law_1057 dL_law_1058 dL_law_1059 ?_
  refine law_m (as := [.int (xs (i + 1)), .int (xs (i + 2))]) C vL_118 (m_mutual shM_ok RM hI.1 g0 _ _) rfl rfl rfl (by decide) ⟨by decide, by decide⟩ hcs hl.1 (by show (1 : Nat) ≤ 8; omega) dL_law_1060 hW1 (fun r μM1 H2 locs2 hq2 hW2 => ?_)
  have hq3 := hq2
  obtain ⟨rfl, _⟩ := hq2
  refine lv_icmp_eq (tgt := 1773) hx hb dL_law_1063 (by decide) (fun _ => ?_) (fun ne => absurd rfl ne)
  exact nxt _ _ _ _ _ (St.mt hI1 RX1 hq3) hW2
theorem law_about (C : LCx D cA σ p s m meth c b L xs) (hL : L ≤ 3072) (hi : i + 6 ≤ L) (hcs : cells ≤ 601024 ∧ slots ≤ 7293034) (hl : lv_has ls 7 [(0, .ref b), (1, .ref (ρX 0)), (2, .ref (ρM 0)), (3, .ref oA), (4, .int (nI i))]) (St : LSt K s0 μX μM) (hW : LWs D cA s ρX ρM v μX μM R H locs) (nxt : ∀ (s1 : Fo) (μX1 μM1 : mm_U) (H1 : Heap) (locs1 : List Loc), LSt K s1 μX1 μM1 → LWs D cA s ρX ρM v μX1 μM1 R H1 locs1 → W p l e room_1 s m #[Value.ref b] below meth c H1 locs1 cells slots Q (F0 m 1773 ls [])) : W p l e room_1 s m #[Value.ref b] below meth c H locs cells slots Q (F0 m 1068 ls []) := by
  obtain ⟨hI, RX, RM, g0, SX, HK⟩ := id St
  have hx := C.1.1
  have hb := C.1.2.1
  refine lv_aload_n hx hb dL_law_1068 rfl (lv_at hl 1 rfl) ?_
  refine law_arg (j := 1) C hW.2.2 (lv_at hl 0 rfl) (lv_at hl 4 rfl) (by omega) hL rfl dL_law_1069 dL_law_1070 dL_law_1072 dL_law_1073 dL_law_1074 ?_
  refine law_arg (j := 2) C hW.2.2 (lv_at hl 0 rfl) (lv_at hl 4 rfl) (by omega) hL rfl dL_law_1075 dL_law_1076 dL_law_1078 dL_law_1079 dL_law_1080 ?_
  refine law_x (as := [.int (xs (i + 1)), .int (xs (i + 2))]) (rest := []) C vL_119 (x_about (I := In) (shX_ok v) In_x RX hI _ _) rfl rfl rfl (by decide) ⟨by decide, by decide⟩ hcs hl.1 (by show (0 : Nat) ≤ 8; omega) dL_law_1081 hW (fun r μX1 H1 locs1 hq hW1 => ?_)
  obtain ⟨rfl, RX1, hI1⟩ := hq
  refine lv_aload_n hx hb dL_law_1084 rfl (lv_at hl 2 rfl) ?_
  refine law_arg (j := 1) C hW1.2.2 (lv_at hl 0 rfl) (lv_at hl 4 rfl) (by omega) hL rfl dL_law_1085 dL_law_1086 dL_law_1088 dL_law_1089 dL_law_1090 ?_
  refine law_arg (j := 2) C hW1.2.2 (lv_at hl 0 rfl) (lv_at hl 4 rfl) (by omega) hL rfl dL_law_1091 dL_law_1092 dL_law_1094 dL_law_1095 dL_law_1096 ?_
  refine law_m (as := [.int (xs (i + 1)), .int (xs (i + 2))]) C vL_122 (m_about shM_ok RM hI.1 g0 _ _) rfl rfl rfl (by decide) ⟨by decide, by decide⟩ hcs hl.1 (by show (1 : Nat) ≤ 8; omega) dL_law_1097 hW1 (fun r μM1 H2 locs2 hq2 hW2 => ?_)
  have hq3 := hq2
  obtain ⟨rfl, _⟩ := hq2
  refine lv_icmp_eq (tgt := 1773) hx hb dL_law_1100 (by decide) (fun _ => ?_) (fun ne => absurd rfl ne)
  exact nxt _ _ _ _ _ (St.mt hI1 RX1 hq3) hW2
theorem law_kind (C : LCx D cA σ p s m meth c b L xs) (hL : L ≤ 3072) (hi : i + 6 ≤ L) (hcs : cells ≤ 601024 ∧ slots ≤ 7293034) (hl : lv_has ls 7 [(0, .ref b), (1, .ref (ρX 0)), (2, .ref (ρM 0)), (3, .ref oA), (4, .int (nI i))]) (St : LSt K s0 μX μM) (hW : LWs D cA s ρX ρM v μX μM R H locs) (nxt : ∀ (s1 : Fo) (μX1 μM1 : mm_U) (H1 : Heap) (locs1 : List Loc), LSt K s1 μX1 μM1 → LWs D cA s ρX ρM v μX1 μM1 R H1 locs1 → W p l e room_1 s m #[Value.ref b] below meth c H1 locs1 cells slots Q (F0 m 1773 ls [])) : W p l e room_1 s m #[Value.ref b] below meth c H locs cells slots Q (F0 m 1105 ls []) := by
  obtain ⟨hI, RX, RM, g0, SX, HK⟩ := id St
  have hx := C.1.1
  have hb := C.1.2.1
  refine lv_aload_n hx hb dL_law_1105 rfl (lv_at hl 1 rfl) ?_
  refine law_arg (j := 1) C hW.2.2 (lv_at hl 0 rfl) (lv_at hl 4 rfl) (by omega) hL rfl dL_law_1106 dL_law_1107 dL_law_1109 dL_law_1110 dL_law_1111 ?_
  refine law_arg (j := 2) C hW.2.2 (lv_at hl 0 rfl) (lv_at hl 4 rfl) (by omega) hL rfl dL_law_1112 dL_law_1113 dL_law_1115 dL_law_1116 dL_law_1117 ?_
  refine law_x (as := [.int (xs (i + 1)), .int (xs (i + 2))]) (rest := []) C vL_123 (x_kind (I := In) (shX_ok v) In_x RX hI _ _) rfl rfl rfl (by decide) ⟨by decide, by decide⟩ hcs hl.1 (by show (0 : Nat) ≤ 8; omega) dL_law_1118 hW (fun r μX1 H1 locs1 hq hW1 => ?_)
  obtain ⟨rfl, RX1, hI1⟩ := hq
  refine lv_aload_n hx hb dL_law_1121 rfl (lv_at hl 2 rfl) ?_
  refine law_arg (j := 1) C hW1.2.2 (lv_at hl 0 rfl) (lv_at hl 4 rfl) (by omega) hL rfl dL_law_1122 dL_law_1123 dL_law_1125 dL_law_1126 dL_law_1127 ?_
  refine law_arg (j := 2) C hW1.2.2 (lv_at hl 0 rfl) (lv_at hl 4 rfl) (by omega) hL rfl dL_law_1128 dL_law_1129 dL_law_1131 dL_law_1132 dL_law_1133 ?_
  refine law_m (as := [.int (xs (i + 1)), .int (xs (i + 2))]) C vL_126 (m_kind shM_ok RM hI.1 g0 _ _) rfl rfl rfl (by decide) ⟨by decide, by decide⟩ hcs hl.1 (by show (1 : Nat) ≤ 8; omega) dL_law_1134 hW1 (fun r μM1 H2 locs2 hq2 hW2 => ?_)
  have hq3 := hq2
  obtain ⟨rfl, _⟩ := hq2
  refine lv_icmp_eq (tgt := 1773) hx hb dL_law_1137 (by decide) (fun _ => ?_) (fun ne => absurd rfl ne)
  exact nxt _ _ _ _ _ (St.mt hI1 RX1 hq3) hW2
theorem law_pairs (C : LCx D cA σ p s m meth c b L xs) (hL : L ≤ 3072) (hi : i + 6 ≤ L) (hcs : cells ≤ 601024 ∧ slots ≤ 7293034) (hl : lv_has ls 7 [(0, .ref b), (1, .ref (ρX 0)), (2, .ref (ρM 0)), (3, .ref oA), (4, .int (nI i))]) (St : LSt K s0 μX μM) (hW : LWs D cA s ρX ρM v μX μM R H locs) (nxt : ∀ (s1 : Fo) (μX1 μM1 : mm_U) (H1 : Heap) (locs1 : List Loc), LSt K s1 μX1 μM1 → LWs D cA s ρX ρM v μX1 μM1 R H1 locs1 → W p l e room_1 s m #[Value.ref b] below meth c H1 locs1 cells slots Q (F0 m 1773 ls [])) : W p l e room_1 s m #[Value.ref b] below meth c H locs cells slots Q (F0 m 1142 ls []) := by
  obtain ⟨hI, RX, RM, g0, SX, HK⟩ := id St
  have hx := C.1.1
  have hb := C.1.2.1
  refine lv_aload_n hx hb dL_law_1142 rfl (lv_at hl 1 rfl) ?_
  refine law_arg (j := 1) C hW.2.2 (lv_at hl 0 rfl) (lv_at hl 4 rfl) (by omega) hL rfl dL_law_1143 dL_law_1144 dL_law_1146 dL_law_1147 dL_law_1148 ?_
  refine law_arg (j := 2) C hW.2.2 (lv_at hl 0 rfl) (lv_at hl 4 rfl) (by omega) hL rfl dL_law_1149 dL_law_1150 dL_law_1152 dL_law_1153 dL_law_1154 ?_
  refine law_x (as := [.int (xs (i + 1)), .int (xs (i + 2))]) (rest := []) C vL_127 (x_pairs (I := In) (shX_ok v) In_x RX hI _ _) rfl rfl rfl (by decide) ⟨by decide, by decide⟩ hcs hl.1 (by show (0 : Nat) ≤ 8; omega) dL_law_1155 hW (fun r μX1 H1 locs1 hq hW1 => ?_)
  obtain ⟨rfl, RX1, hI1⟩ := hq
  refine lv_aload_n hx hb dL_law_1158 rfl (lv_at hl 2 rfl) ?_
  refine law_arg (j := 1) C hW1.2.2 (lv_at hl 0 rfl) (lv_at hl 4 rfl) (by omega) hL rfl dL_law_1159 dL_law_1160 dL_law_1162 dL_law_1163 dL_law_1164 ?_
  refine law_arg (j := 2) C hW1.2.2 (lv_at hl 0 rfl) (lv_at hl 4 rfl) (by omega) hL rfl dL_law_1165 dL_law_1166 dL_law_1168 dL_law_1169 dL_law_1170 ?_
  refine law_m (as := [.int (xs (i + 1)), .int (xs (i + 2))]) C vL_130 (m_pairs shM_ok RM hI.1 g0 _ _) rfl rfl rfl (by decide) ⟨by decide, by decide⟩ hcs hl.1 (by show (1 : Nat) ≤ 8; omega) dL_law_1171 hW1 (fun r μM1 H2 locs2 hq2 hW2 => ?_)
  have hq3 := hq2
  obtain ⟨rfl, _⟩ := hq2
  refine lv_icmp_eq (tgt := 1773) hx hb dL_law_1174 (by decide) (fun _ => ?_) (fun ne => absurd rfl ne)
  exact nxt _ _ _ _ _ (St.mt hI1 RX1 hq3) hW2
theorem law_ranked (C : LCx D cA σ p s m meth c b L xs) (hL : L ≤ 3072) (hi : i + 6 ≤ L) (hcs : cells ≤ 601024 ∧ slots ≤ 7293034) (hl : lv_has ls 7 [(0, .ref b), (1, .ref (ρX 0)), (2, .ref (ρM 0)), (3, .ref oA), (4, .int (nI i))]) (St : LSt K s0 μX μM) (hW : LWs D cA s ρX ρM v μX μM R H locs) (nxt : ∀ (s1 : Fo) (μX1 μM1 : mm_U) (H1 : Heap) (locs1 : List Loc), LSt K s1 μX1 μM1 → LWs D cA s ρX ρM v μX1 μM1 R H1 locs1 → W p l e room_1 s m #[Value.ref b] below meth c H1 locs1 cells slots Q (F0 m 1773 ls [])) : W p l e room_1 s m #[Value.ref b] below meth c H locs cells slots Q (F0 m 1179 ls []) := by
  obtain ⟨hI, RX, RM, g0, SX, HK⟩ := id St
  have hx := C.1.1
  have hb := C.1.2.1
  refine lv_aload_n hx hb dL_law_1179 rfl (lv_at hl 1 rfl) ?_
  refine law_arg (j := 1) C hW.2.2 (lv_at hl 0 rfl) (lv_at hl 4 rfl) (by omega) hL rfl dL_law_1180 dL_law_1181 dL_law_1183 dL_law_1184 dL_law_1185 ?_
  refine law_x (as := [.int (xs (i + 1))]) (rest := []) C vL_131 (x_ranked (I := In) (shX_ok v) In_x RX hI _) rfl rfl rfl (by decide) ⟨by decide, by decide⟩ hcs hl.1 (by show (0 : Nat) ≤ 8; omega) dL_law_1186 hW (fun r μX1 H1 locs1 hq hW1 => ?_)
  obtain ⟨rfl, RX1, hI1⟩ := hq
  refine lv_aload_n hx hb dL_law_1189 rfl (lv_at hl 2 rfl) ?_
  refine law_arg (j := 1) C hW1.2.2 (lv_at hl 0 rfl) (lv_at hl 4 rfl) (by omega) hL rfl dL_law_1190 dL_law_1191 dL_law_1193 dL_law_1194 dL_law_1195 ?_
  refine law_m (as := [.int (xs (i + 1))]) C vL_134 (m_ranked shM_ok RM hI.1 g0 _) rfl rfl rfl (by decide) ⟨by decide, by decide⟩ hcs hl.1 (by show (1 : Nat) ≤ 8; omega) dL_law_1196 hW1 (fun r μM1 H2 locs2 hq2 hW2 => ?_)
  have hq3 := hq2
  obtain ⟨rfl, _⟩ := hq2
  refine lv_icmp_eq (tgt := 1773) hx hb dL_law_1199 (by decide) (fun _ => ?_) (fun ne => absurd rfl ne)
  exact nxt _ _ _ _ _ (St.mt hI1 RX1 hq3) hW2
theorem law_around (C : LCx D cA σ p s m meth c b L xs) (hL : L ≤ 3072) (hi : i + 6 ≤ L) (hcs : cells ≤ 601024 ∧ slots ≤ 7293034) (hl : lv_has ls 7 [(0, .ref b), (1, .ref (ρX 0)), (2, .ref (ρM 0)), (3, .ref oA), (4, .int (nI i))]) (St : LSt K s0 μX μM) (hW : LWs D cA s ρX ρM v μX μM R H locs) (nxt : ∀ (s1 : Fo) (μX1 μM1 : mm_U) (H1 : Heap) (locs1 : List Loc), LSt K s1 μX1 μM1 → LWs D cA s ρX ρM v μX1 μM1 R H1 locs1 → W p l e room_1 s m #[Value.ref b] below meth c H1 locs1 cells slots Q (F0 m 1773 ls [])) : W p l e room_1 s m #[Value.ref b] below meth c H locs cells slots Q (F0 m 1204 ls []) := by
  obtain ⟨hI, RX, RM, g0, SX, HK⟩ := id St
  have hx := C.1.1
  have hb := C.1.2.1
  refine lv_aload_n hx hb dL_law_1204 rfl (lv_at hl 1 rfl) ?_
  refine law_arg (j := 1) C hW.2.2 (lv_at hl 0 rfl) (lv_at hl 4 rfl) (by omega) hL rfl dL_law_1205 dL_law_1206 dL_law_1208 dL_law_1209 dL_law_1210 ?_
  refine law_arg (j := 2) C hW.2.2 (lv_at hl 0 rfl) (lv_at hl 4 rfl) (by omega) hL rfl dL_law_1211 dL_law_1212 dL_law_1214 dL_law_1215 dL_law_1216 ?_
  refine law_arg (j := 3) C hW.2.2 (lv_at hl 0 rfl) (lv_at hl 4 rfl) (by omega) hL rfl dL_law_1217 dL_law_1218 dL_law_1220 dL_law_1221 dL_law_1222 ?_
  refine law_x (as := [.int (xs (i + 1)), .int (xs (i + 2)), .int (xs (i + 3))]) (rest := []) C vL_135 (x_around (I := In) (shX_ok v) In_x RX hI _ _ _) rfl rfl rfl (by decide) ⟨by decide, by decide⟩ hcs hl.1 (by show (0 : Nat) ≤ 8; omega) dL_law_1223 hW (fun r μX1 H1 locs1 hq hW1 => ?_)
  obtain ⟨rfl, RX1, hI1⟩ := hq
  refine lv_aload_n hx hb dL_law_1226 rfl (lv_at hl 2 rfl) ?_
  refine law_arg (j := 1) C hW1.2.2 (lv_at hl 0 rfl) (lv_at hl 4 rfl) (by omega) hL rfl dL_law_1227 dL_law_1228 dL_law_1230 dL_law_1231 dL_law_1232 ?_
  refine law_arg (j := 2) C hW1.2.2 (lv_at hl 0 rfl) (lv_at hl 4 rfl) (by omega) hL rfl dL_law_1233 dL_law_1234 dL_law_1236 dL_law_1237 dL_law_1238 ?_
  refine law_arg (j := 3) C hW1.2.2 (lv_at hl 0 rfl) (lv_at hl 4 rfl) (by omega) hL rfl dL_law_1239 dL_law_1240 dL_law_1242 dL_law_1243 dL_law_1244 ?_
  refine law_m (as := [.int (xs (i + 1)), .int (xs (i + 2)), .int (xs (i + 3))]) C vL_138 (m_around shM_ok RM hI.1 g0 _ _ _) rfl rfl rfl (by decide) ⟨by decide, by decide⟩ hcs hl.1 (by show (1 : Nat) ≤ 8; omega) dL_law_1245 hW1 (fun r μM1 H2 locs2 hq2 hW2 => ?_)
  have hq3 := hq2
  obtain ⟨rfl, _⟩ := hq2
  refine lv_icmp_eq (tgt := 1773) hx hb dL_law_1248 (by decide) (fun _ => ?_) (fun ne => absurd rfl ne)
  exact nxt _ _ _ _ _ (St.mt hI1 RX1 hq3) hW2
theorem law_rounds (C : LCx D cA σ p s m meth c b L xs) (hL : L ≤ 3072) (hi : i + 6 ≤ L) (hcs : cells ≤ 601024 ∧ slots ≤ 7293034) (hl : lv_has ls 7 [(0, .ref b), (1, .ref (ρX 0)), (2, .ref (ρM 0)), (3, .ref oA), (4, .int (nI i))]) (St : LSt K s0 μX μM) (hW : LWs D cA s ρX ρM v μX μM R H locs) (nxt : ∀ (s1 : Fo) (μX1 μM1 : mm_U) (H1 : Heap) (locs1 : List Loc), LSt K s1 μX1 μM1 → LWs D cA s ρX ρM v μX1 μM1 R H1 locs1 → W p l e room_1 s m #[Value.ref b] below meth c H1 locs1 cells slots Q (F0 m 1773 ls [])) : W p l e room_1 s m #[Value.ref b] below meth c H locs cells slots Q (F0 m 1253 ls []) := by
  obtain ⟨hI, RX, RM, g0, SX, HK⟩ := id St
  have hx := C.1.1
  have hb := C.1.2.1
  refine lv_aload_n hx hb dL_law_1253 rfl (lv_at hl 1 rfl) ?_
  refine law_arg (j := 1) C hW.2.2 (lv_at hl 0 rfl) (lv_at hl 4 rfl) (by omega) hL rfl dL_law_1254 dL_law_1255 dL_law_1257 dL_law_1258 dL_law_1259 ?_
  refine law_arg (j := 2) C hW.2.2 (lv_at hl 0 rfl) (lv_at hl 4 rfl) (by omega) hL rfl dL_law_1260 dL_law_1261 dL_law_1263 dL_law_1264 dL_law_1265 ?_
  refine law_x (as := [.int (xs (i + 1)), .int (xs (i + 2))]) (rest := []) C vL_139 (x_rounds (I := In) (shX_ok v) In_x RX hI _ _) rfl rfl rfl (by decide) ⟨by decide, by decide⟩ hcs hl.1 (by show (0 : Nat) ≤ 8; omega) dL_law_1266 hW (fun r μX1 H1 locs1 hq hW1 => ?_)
  obtain ⟨rfl, RX1, hI1⟩ := hq
  refine lv_aload_n hx hb dL_law_1269 rfl (lv_at hl 2 rfl) ?_
  refine law_arg (j := 1) C hW1.2.2 (lv_at hl 0 rfl) (lv_at hl 4 rfl) (by omega) hL rfl dL_law_1270 dL_law_1271 dL_law_1273 dL_law_1274 dL_law_1275 ?_
  refine law_arg (j := 2) C hW1.2.2 (lv_at hl 0 rfl) (lv_at hl 4 rfl) (by omega) hL rfl dL_law_1276 dL_law_1277 dL_law_1279 dL_law_1280 dL_law_1281 ?_
  refine law_m (as := [.int (xs (i + 1)), .int (xs (i + 2))]) C vL_142 (m_rounds shM_ok RM hI.1 g0 _ _) rfl rfl rfl (by decide) ⟨by decide, by decide⟩ hcs hl.1 (by show (1 : Nat) ≤ 8; omega) dL_law_1282 hW1 (fun r μM1 H2 locs2 hq2 hW2 => ?_)
  have hq3 := hq2
  obtain ⟨rfl, _⟩ := hq2
  refine lv_icmp_eq (tgt := 1773) hx hb dL_law_1285 (by decide) (fun _ => ?_) (fun ne => absurd rfl ne)
  exact nxt _ _ _ _ _ (St.mt hI1 RX1 hq3) hW2
theorem law_spans (C : LCx D cA σ p s m meth c b L xs) (hL : L ≤ 3072) (hi : i + 6 ≤ L) (hcs : cells ≤ 601024 ∧ slots ≤ 7293034) (hl : lv_has ls 7 [(0, .ref b), (1, .ref (ρX 0)), (2, .ref (ρM 0)), (3, .ref oA), (4, .int (nI i))]) (St : LSt K s0 μX μM) (hW : LWs D cA s ρX ρM v μX μM R H locs) (nxt : ∀ (s1 : Fo) (μX1 μM1 : mm_U) (H1 : Heap) (locs1 : List Loc), LSt K s1 μX1 μM1 → LWs D cA s ρX ρM v μX1 μM1 R H1 locs1 → W p l e room_1 s m #[Value.ref b] below meth c H1 locs1 cells slots Q (F0 m 1773 ls [])) : W p l e room_1 s m #[Value.ref b] below meth c H locs cells slots Q (F0 m 1290 ls []) := by
  obtain ⟨hI, RX, RM, g0, SX, HK⟩ := id St
  have hx := C.1.1
  have hb := C.1.2.1
  refine lv_aload_n hx hb dL_law_1290 rfl (lv_at hl 1 rfl) ?_
  refine law_arg (j := 1) C hW.2.2 (lv_at hl 0 rfl) (lv_at hl 4 rfl) (by omega) hL rfl dL_law_1291 dL_law_1292 dL_law_1294 dL_law_1295 dL_law_1296 ?_
  refine law_arg (j := 2) C hW.2.2 (lv_at hl 0 rfl) (lv_at hl 4 rfl) (by omega) hL rfl dL_law_1297 dL_law_1298 dL_law_1300 dL_law_1301 dL_law_1302 ?_
  refine law_arg (j := 3) C hW.2.2 (lv_at hl 0 rfl) (lv_at hl 4 rfl) (by omega) hL rfl dL_law_1303 dL_law_1304 dL_law_1306 dL_law_1307 dL_law_1308 ?_
  refine law_x (as := [.int (xs (i + 1)), .int (xs (i + 2)), .int (xs (i + 3))]) (rest := []) C vL_143 (x_spans (I := In) (shX_ok v) In_x RX hI _ _ _) rfl rfl rfl (by decide) ⟨by decide, by decide⟩ hcs hl.1 (by show (0 : Nat) ≤ 8; omega) dL_law_1309 hW (fun r μX1 H1 locs1 hq hW1 => ?_)
  obtain ⟨rfl, RX1, hI1⟩ := hq
  refine lv_aload_n hx hb dL_law_1312 rfl (lv_at hl 2 rfl) ?_
  refine law_arg (j := 1) C hW1.2.2 (lv_at hl 0 rfl) (lv_at hl 4 rfl) (by omega) hL rfl dL_law_1313 dL_law_1314 dL_law_1316 dL_law_1317 dL_law_1318 ?_
  refine law_arg (j := 2) C hW1.2.2 (lv_at hl 0 rfl) (lv_at hl 4 rfl) (by omega) hL rfl dL_law_1319 dL_law_1320 dL_law_1322 dL_law_1323 dL_law_1324 ?_
  refine law_arg (j := 3) C hW1.2.2 (lv_at hl 0 rfl) (lv_at hl 4 rfl) (by omega) hL rfl dL_law_1325 dL_law_1326 dL_law_1328 dL_law_1329 dL_law_1330 ?_
  refine law_m (as := [.int (xs (i + 1)), .int (xs (i + 2)), .int (xs (i + 3))]) C vL_146 (m_spans shM_ok RM hI.1 g0 _ _ _) rfl rfl rfl (by decide) ⟨by decide, by decide⟩ hcs hl.1 (by show (1 : Nat) ≤ 8; omega) dL_law_1331 hW1 (fun r μM1 H2 locs2 hq2 hW2 => ?_)
  have hq3 := hq2
  obtain ⟨rfl, _⟩ := hq2
  refine lv_icmp_eq (tgt := 1773) hx hb dL_law_1334 (by decide) (fun _ => ?_) (fun ne => absurd rfl ne)
  exact nxt _ _ _ _ _ (St.mt hI1 RX1 hq3) hW2
theorem law_pieces (C : LCx D cA σ p s m meth c b L xs) (hL : L ≤ 3072) (hi : i + 6 ≤ L) (hcs : cells ≤ 601024 ∧ slots ≤ 7293034) (hl : lv_has ls 7 [(0, .ref b), (1, .ref (ρX 0)), (2, .ref (ρM 0)), (3, .ref oA), (4, .int (nI i))]) (St : LSt K s0 μX μM) (hW : LWs D cA s ρX ρM v μX μM R H locs) (nxt : ∀ (s1 : Fo) (μX1 μM1 : mm_U) (H1 : Heap) (locs1 : List Loc), LSt K s1 μX1 μM1 → LWs D cA s ρX ρM v μX1 μM1 R H1 locs1 → W p l e room_1 s m #[Value.ref b] below meth c H1 locs1 cells slots Q (F0 m 1773 ls [])) : W p l e room_1 s m #[Value.ref b] below meth c H locs cells slots Q (F0 m 1339 ls []) := by
  obtain ⟨hI, RX, RM, g0, SX, HK⟩ := id St
  have hx := C.1.1
  have hb := C.1.2.1
  refine lv_aload_n hx hb dL_law_1339 rfl (lv_at hl 1 rfl) ?_
  refine law_arg (j := 1) C hW.2.2 (lv_at hl 0 rfl) (lv_at hl 4 rfl) (by omega) hL rfl dL_law_1340 dL_law_1341 dL_law_1343 dL_law_1344 dL_law_1345 ?_
  refine law_arg (j := 2) C hW.2.2 (lv_at hl 0 rfl) (lv_at hl 4 rfl) (by omega) hL rfl dL_law_1346 dL_law_1347 dL_law_1349 dL_law_1350 dL_law_1351 ?_
  refine law_x (as := [.int (xs (i + 1)), .int (xs (i + 2))]) (rest := []) C vL_147 (x_pieces (I := In) (shX_ok v) In_x RX hI _ _) rfl rfl rfl (by decide) ⟨by decide, by decide⟩ hcs hl.1 (by show (0 : Nat) ≤ 8; omega) dL_law_1352 hW (fun r μX1 H1 locs1 hq hW1 => ?_)
  obtain ⟨rfl, RX1, hI1⟩ := hq
  refine lv_aload_n hx hb dL_law_1355 rfl (lv_at hl 2 rfl) ?_
  refine law_arg (j := 1) C hW1.2.2 (lv_at hl 0 rfl) (lv_at hl 4 rfl) (by omega) hL rfl dL_law_1356 dL_law_1357 dL_law_1359 dL_law_1360 dL_law_1361 ?_
  refine law_arg (j := 2) C hW1.2.2 (lv_at hl 0 rfl) (lv_at hl 4 rfl) (by omega) hL rfl dL_law_1362 dL_law_1363 dL_law_1365 dL_law_1366 dL_law_1367 ?_
  refine law_m (as := [.int (xs (i + 1)), .int (xs (i + 2))]) C vL_150 (m_pieces shM_ok RM hI.1 g0 _ _) rfl rfl rfl (by decide) ⟨by decide, by decide⟩ hcs hl.1 (by show (1 : Nat) ≤ 8; omega) dL_law_1368 hW1 (fun r μM1 H2 locs2 hq2 hW2 => ?_)
  have hq3 := hq2
  obtain ⟨rfl, _⟩ := hq2
  refine lv_icmp_eq (tgt := 1773) hx hb dL_law_1371 (by decide) (fun _ => ?_) (fun ne => absurd rfl ne)
  exact nxt _ _ _ _ _ (St.mt hI1 RX1 hq3) hW2
end LAWC
