/-! THE LAW: its cases, 9 to 17 -/
set_option maxHeartbeats 1000000 in
set_option maxRecDepth 100000 in
theorem lc_word (l : Launch) (hfl : l.flags = flags0) {p : Program} {e : Env} {s : State} {m : MethodId} {args : Array Value} {below : List Frame} {meth : Method} {c : Code} {G : gW} (C : Cx p l s m args meth c G RL cL_law 8) (hgX : gX G s s.heap) {b L : Nat} {xs : Nat → Int32} (hX : va_X b L xs s s.heap) (hbl : b < s.heap.size) (hbA : ¬ gA G b) (hL : L ≤ 4096) {i : Nat} (hi : i + 8 ≤ L) {τ : Mu} {α : Nat → Nat} {M : Mem} {q mb ao n9 : Nat} (hj : LJ τ G α M q mb ao) (hk : LK n9 τ) (hn9 : n9 ≤ 600) {cells slots : Nat} (hcs : cells ≤ 500000) (hss : slots ≤ 7000000) {Q : State → Prop} (kk : ∀ U be M2, LJ U G be M2 q mb ao → LK (n9 + 1) U → V p l e room_1 s m args below meth c G Q 8 M2 (cells + 20) (slots + 4000) 2691 [(0, .ref b), (1, .ref q), (2, .ref mb), (3, .ref ao), (4, .int (nI i))] []) : V p l e room_1 s m args below meth c G Q 8 M cells slots 918 [(0, .ref b), (1, .ref q), (2, .ref mb), (3, .ref ao), (4, .int (nI i))] [] := by
  have hj0 := hj
  obtain ⟨hw, ⟨hws, hwt, hwb⟩, ha0, hmt, ⟨hao, hao1⟩, han, hmn, hom⟩ := hj0
  subst ha0
  refine r_aload_n C 1 dL_law_918 rfl rfl ?_
  refine r_aload_n C 0 dL_law_919 rfl rfl ?_
  refine r_iload C 4 dL_law_920 rfl ?_
  refine r_iconst C (v := nI 1) dL_law_922 (by decide) ?_
  refine r_iaddN C dL_law_923 ?_
  refine r_sld C hX hbl hbA hL (i := i + 1) (by omega) dL_law_924 ?_
  refine r_aload_n C 0 dL_law_925 rfl rfl ?_
  refine r_iload C 4 dL_law_926 rfl ?_
  refine r_iconst C (v := nI 2) dL_law_928 (by decide) ?_
  refine r_iaddN C dL_law_929 ?_
  refine r_sld C hX hbl hbA hL (i := i + 2) (by omega) dL_law_930 ?_
  refine r_aload_n C 3 dL_law_931 rfl rfl ?_
  refine r_callH C hgX hl_word (c_L_word l hfl G M τ hw α hws hwt hwb (hk.ad hn9) (xs (i + 1)) (xs (i + 2)) ao hao hao1 han (fun h_ => (lk_word hw hk hn9 h_).1)) rfl (Nat.le_of_ble_eq_true rfl) (rm_hR (Nat.le_of_ble_eq_true rfl) (Nat.le_of_ble_eq_true rfl)) (rm_hf (by omega) (by omega)) dL_law_932 rfl ?_
  intro v1 M1 hlp0
  obtain ⟨cc, hcc, hlp, hv1⟩ := LPo.ex hlp0
  subst hv1
  clear hlp0
  have hc3 : cc ≤ 3 := by rw [hcc]; exact cd2_le _ _
  have hmd := hj.mid hlp
  refine V.eSt (st' := [.int (nI cc)]) rfl ?_
  refine r_istore C (lo' := [(5, .int (nI cc)), (0, .ref b), (1, .ref (α 0)), (2, .ref mb), (3, .ref ao), (4, .int (nI i))]) dL_law_935 (by decide) rfl ?_
  refine r_aload_n C 3 dL_law_937 rfl rfl ?_
  refine r_aload_n C 1 dL_law_938 rfl rfl ?_
  refine r_iload C 5 dL_law_939 rfl ?_
  refine r_iconst C (v := nI 1) dL_law_941 (by decide) ?_
  refine r_iaddN C dL_law_942 ?_
  refine r_sld C hX hbl hbA hL (i := i + 1) (by omega) dL_law_943 ?_
  refine r_aload_n C 1 dL_law_944 rfl rfl ?_
  refine r_iload C 5 dL_law_945 rfl ?_
  refine r_iconst C (v := nI 2) dL_law_947 (by decide) ?_
  refine r_iaddN C dL_law_948 ?_
  refine r_sld C hX hbl hbA hL (i := i + 2) (by omega) dL_law_949 ?_
  refine r_callV C hgX (ci := 14) ml_L_171 im_X12_word se_X12_word rfl rfl hmd.1.1 (c_X12_word l hfl G M1 mb τ hmd.1 hmd.2.1 hw hmd.2.2.1 hmd.2.2.2 (xs (i + 1)) (xs (i + 2))) rfl (Nat.le_of_ble_eq_true rfl) (rm_hR (Nat.le_of_ble_eq_true rfl) (Nat.le_of_ble_eq_true rfl)) (rm_hf (by omega) (by omega)) dL_law_950 rfl ?_
  intro v2 M2 hpp0
  have hpp := PP.ex hcc hpp0
  clear hpp0
  obtain ⟨be, hj2, hlk⟩ := hj.step2 (n := n9 + 1) (fun h_ => lk_word hw hk hn9 (hcc.symm.trans h_)) hk.up hlp hpp
  obtain ⟨x2, hx2⟩ := hpp.2.2.2.2.2
  subst hx2
  refine V.eSt (st' := [.int x2]) rfl ?_
  refine r_istore C (lo' := [(6, .int x2), (5, .int (nI cc)), (0, .ref b), (1, .ref (α 0)), (2, .ref mb), (3, .ref ao), (4, .int (nI i))]) dL_law_953 (by decide) rfl ?_
  refine r_aload_n C 4 dL_law_955 rfl rfl ?_
  refine r_callV C hgX (ci := 14) ml_L_138 im_X12_thrown se_X12_thrown rfl rfl hj2.2.2.2.1.1.1 (c_X12_thrown l hfl G M2 mb hj2.2.2.2.1.1) rfl (Nat.le_of_ble_eq_true rfl) (rm_hR (Nat.le_of_ble_eq_true rfl) (Nat.le_of_ble_eq_true rfl)) (rm_hf (by omega) (by omega)) dL_law_956 rfl ?_
  intro v3 M3 h3
  obtain ⟨hv3, hM3⟩ := h3
  subst hv3
  subst hM3
  refine V.eSt (st' := [.int (nI cc)]) (congrArg (fun z_ => [Value.int z_]) hpp.1) ?_
  refine r_iload C 1 dL_law_959 rfl ?_
  refine r_icmp_eqN C (t := 966) (by omega) (by omega) dL_law_961 (by decide) (fun c961 => ?_) (fun c961 => ?_)
  · skip
    refine r_iload C 1 dL_law_966 rfl ?_
    refine r_if_neN C (t := 983) (by omega) dL_law_968 (by decide) (fun c968 => ?_) (fun c968 => ?_)
    · skip
      refine r_goto C (t := 2691) dL_law_983 (by decide) ?_
      refine V.sub [2, 3, 4, 5, 6] (lo' := [(0, .ref b), (1, .ref (α 0)), (2, .ref mb), (3, .ref ao), (4, .int (nI i))]) rfl ?_
      refine V.widen (k := cells + 20) (n := slots + 4000) (by omega) (by omega) ?_
      exact kk _ be M2 hj2 hlk
    · skip
      refine r_aload_n C 5 dL_law_971 rfl rfl ?_
      refine r_iconst C (v := nI 0) dL_law_972 (by decide) ?_
      refine r_laloadN C hj2.2.2.2.2.1.1 hj2.2.2.2.2.1.2 (by omega) (by omega) dL_law_973 ?_
      refine r_iload C 0 dL_law_974 rfl ?_
      refine r_i2l C dL_law_976 ?_
      have hA := hj.out hlp hpp c968
      have hB := so_i (hpp.2.2.2.2.1 c968).1
      refine r_lcmp_eq C (t := 983) dL_law_977 dL_law_978 (by decide) (fun c978 => ?_) (fun c978 => ?_)
      · skip
        refine r_goto C (t := 2691) dL_law_983 (by decide) ?_
        refine V.sub [2, 3, 4, 5, 6] (lo' := [(0, .ref b), (1, .ref (α 0)), (2, .ref mb), (3, .ref ao), (4, .int (nI i))]) rfl ?_
        refine V.widen (k := cells + 20) (n := slots + 4000) (by omega) (by omega) ?_
        exact kk _ be M2 hj2 hlk
      · exact absurd (by rw [hA, hB]) c978
  · exact absurd rfl c961
set_option maxHeartbeats 1000000 in
set_option maxRecDepth 100000 in
theorem lc_element (l : Launch) (hfl : l.flags = flags0) {p : Program} {e : Env} {s : State} {m : MethodId} {args : Array Value} {below : List Frame} {meth : Method} {c : Code} {G : gW} (C : Cx p l s m args meth c G RL cL_law 8) (hgX : gX G s s.heap) {b L : Nat} {xs : Nat → Int32} (hX : va_X b L xs s s.heap) (hbl : b < s.heap.size) (hbA : ¬ gA G b) (hL : L ≤ 4096) {i : Nat} (hi : i + 8 ≤ L) {τ : Mu} {α : Nat → Nat} {M : Mem} {q mb ao n9 : Nat} (hj : LJ τ G α M q mb ao) (hk : LK n9 τ) (hn9 : n9 ≤ 600) {cells slots : Nat} (hcs : cells ≤ 500000) (hss : slots ≤ 7000000) {Q : State → Prop} (kk : ∀ U be M2, LJ U G be M2 q mb ao → LK (n9 + 1) U → V p l e room_1 s m args below meth c G Q 8 M2 (cells + 20) (slots + 4000) 2691 [(0, .ref b), (1, .ref q), (2, .ref mb), (3, .ref ao), (4, .int (nI i))] []) : V p l e room_1 s m args below meth c G Q 8 M cells slots 986 [(0, .ref b), (1, .ref q), (2, .ref mb), (3, .ref ao), (4, .int (nI i))] [] := by
  have hj0 := hj
  obtain ⟨hw, ⟨hws, hwt, hwb⟩, ha0, hmt, ⟨hao, hao1⟩, han, hmn, hom⟩ := hj0
  subst ha0
  refine r_aload_n C 1 dL_law_986 rfl rfl ?_
  refine r_aload_n C 0 dL_law_987 rfl rfl ?_
  refine r_iload C 4 dL_law_988 rfl ?_
  refine r_iconst C (v := nI 1) dL_law_990 (by decide) ?_
  refine r_iaddN C dL_law_991 ?_
  refine r_sld C hX hbl hbA hL (i := i + 1) (by omega) dL_law_992 ?_
  refine r_aload_n C 0 dL_law_993 rfl rfl ?_
  refine r_iload C 4 dL_law_994 rfl ?_
  refine r_iconst C (v := nI 2) dL_law_996 (by decide) ?_
  refine r_iaddN C dL_law_997 ?_
  refine r_sld C hX hbl hbA hL (i := i + 2) (by omega) dL_law_998 ?_
  refine r_aload_n C 3 dL_law_999 rfl rfl ?_
  refine r_callH C hgX hl_element (c_L_element l hfl G M τ hw α hws hwt hwb (hk.ad hn9) (xs (i + 1)) (xs (i + 2)) ao hao hao1 han (fun h_ => (lk_element hw hk hn9 h_).1)) rfl (Nat.le_of_ble_eq_true rfl) (rm_hR (Nat.le_of_ble_eq_true rfl) (Nat.le_of_ble_eq_true rfl)) (rm_hf (by omega) (by omega)) dL_law_1000 rfl ?_
  intro v1 M1 hlp0
  obtain ⟨cc, hcc, hlp, hv1⟩ := LPo.ex hlp0
  subst hv1
  clear hlp0
  have hc3 : cc ≤ 3 := by rw [hcc]; exact cd3_le _ _ _
  have hmd := hj.mid hlp
  refine V.eSt (st' := [.int (nI cc)]) rfl ?_
  refine r_istore C (lo' := [(5, .int (nI cc)), (0, .ref b), (1, .ref (α 0)), (2, .ref mb), (3, .ref ao), (4, .int (nI i))]) dL_law_1003 (by decide) rfl ?_
  refine r_aload_n C 3 dL_law_1005 rfl rfl ?_
  refine r_aload_n C 1 dL_law_1006 rfl rfl ?_
  refine r_iload C 5 dL_law_1007 rfl ?_
  refine r_iconst C (v := nI 1) dL_law_1009 (by decide) ?_
  refine r_iaddN C dL_law_1010 ?_
  refine r_sld C hX hbl hbA hL (i := i + 1) (by omega) dL_law_1011 ?_
  refine r_aload_n C 1 dL_law_1012 rfl rfl ?_
  refine r_iload C 5 dL_law_1013 rfl ?_
  refine r_iconst C (v := nI 2) dL_law_1015 (by decide) ?_
  refine r_iaddN C dL_law_1016 ?_
  refine r_sld C hX hbl hbA hL (i := i + 2) (by omega) dL_law_1017 ?_
  refine r_callV C hgX (ci := 14) ml_L_174 im_X12_element se_X12_element rfl rfl hmd.1.1 (c_X12_element l hfl G M1 mb τ hmd.1 hmd.2.1 hw hmd.2.2.1 hmd.2.2.2 (xs (i + 1)) (xs (i + 2))) rfl (Nat.le_of_ble_eq_true rfl) (rm_hR (Nat.le_of_ble_eq_true rfl) (Nat.le_of_ble_eq_true rfl)) (rm_hf (by omega) (by omega)) dL_law_1018 rfl ?_
  intro v2 M2 hpp0
  have hpp := PP.ex hcc hpp0
  clear hpp0
  obtain ⟨be, hj2, hlk⟩ := hj.step2 (n := n9 + 1) (fun h_ => lk_element hw hk hn9 (hcc.symm.trans h_)) hk.up hlp hpp
  obtain ⟨x2, hx2⟩ := hpp.2.2.2.2.2
  subst hx2
  refine V.eSt (st' := [.int x2]) rfl ?_
  refine r_istore C (lo' := [(6, .int x2), (5, .int (nI cc)), (0, .ref b), (1, .ref (α 0)), (2, .ref mb), (3, .ref ao), (4, .int (nI i))]) dL_law_1021 (by decide) rfl ?_
  refine r_aload_n C 4 dL_law_1023 rfl rfl ?_
  refine r_callV C hgX (ci := 14) ml_L_138 im_X12_thrown se_X12_thrown rfl rfl hj2.2.2.2.1.1.1 (c_X12_thrown l hfl G M2 mb hj2.2.2.2.1.1) rfl (Nat.le_of_ble_eq_true rfl) (rm_hR (Nat.le_of_ble_eq_true rfl) (Nat.le_of_ble_eq_true rfl)) (rm_hf (by omega) (by omega)) dL_law_1024 rfl ?_
  intro v3 M3 h3
  obtain ⟨hv3, hM3⟩ := h3
  subst hv3
  subst hM3
  refine V.eSt (st' := [.int (nI cc)]) (congrArg (fun z_ => [Value.int z_]) hpp.1) ?_
  refine r_iload C 1 dL_law_1027 rfl ?_
  refine r_icmp_eqN C (t := 1034) (by omega) (by omega) dL_law_1029 (by decide) (fun c1029 => ?_) (fun c1029 => ?_)
  · skip
    refine r_iload C 1 dL_law_1034 rfl ?_
    refine r_if_neN C (t := 1051) (by omega) dL_law_1036 (by decide) (fun c1036 => ?_) (fun c1036 => ?_)
    · skip
      refine r_goto C (t := 2691) dL_law_1051 (by decide) ?_
      refine V.sub [2, 3, 4, 5, 6] (lo' := [(0, .ref b), (1, .ref (α 0)), (2, .ref mb), (3, .ref ao), (4, .int (nI i))]) rfl ?_
      refine V.widen (k := cells + 20) (n := slots + 4000) (by omega) (by omega) ?_
      exact kk _ be M2 hj2 hlk
    · skip
      refine r_aload_n C 5 dL_law_1039 rfl rfl ?_
      refine r_iconst C (v := nI 0) dL_law_1040 (by decide) ?_
      refine r_laloadN C hj2.2.2.2.2.1.1 hj2.2.2.2.2.1.2 (by omega) (by omega) dL_law_1041 ?_
      refine r_iload C 0 dL_law_1042 rfl ?_
      refine r_i2l C dL_law_1044 ?_
      have hA := hj.out hlp hpp c1036
      have hB := so_i (hpp.2.2.2.2.1 c1036).1
      refine r_lcmp_eq C (t := 1051) dL_law_1045 dL_law_1046 (by decide) (fun c1046 => ?_) (fun c1046 => ?_)
      · skip
        refine r_goto C (t := 2691) dL_law_1051 (by decide) ?_
        refine V.sub [2, 3, 4, 5, 6] (lo' := [(0, .ref b), (1, .ref (α 0)), (2, .ref mb), (3, .ref ao), (4, .int (nI i))]) rfl ?_
        refine V.widen (k := cells + 20) (n := slots + 4000) (by omega) (by omega) ?_
        exact kk _ be M2 hj2 hlk
      · exact absurd (by rw [hA, hB]) c1046
  · exact absurd rfl c1029
set_option maxHeartbeats 1000000 in
set_option maxRecDepth 100000 in
theorem lc_order (l : Launch) (hfl : l.flags = flags0) {p : Program} {e : Env} {s : State} {m : MethodId} {args : Array Value} {below : List Frame} {meth : Method} {c : Code} {G : gW} (C : Cx p l s m args meth c G RL cL_law 8) (hgX : gX G s s.heap) {b L : Nat} {xs : Nat → Int32} (hX : va_X b L xs s s.heap) (hbl : b < s.heap.size) (hbA : ¬ gA G b) (hL : L ≤ 4096) {i : Nat} (hi : i + 8 ≤ L) {τ : Mu} {α : Nat → Nat} {M : Mem} {q mb ao n9 : Nat} (hj : LJ τ G α M q mb ao) (hk : LK n9 τ) (hn9 : n9 ≤ 600) {cells slots : Nat} (hcs : cells ≤ 500000) (hss : slots ≤ 7000000) {Q : State → Prop} (kk : ∀ U be M2, LJ U G be M2 q mb ao → LK (n9 + 1) U → V p l e room_1 s m args below meth c G Q 8 M2 (cells + 20) (slots + 4000) 2691 [(0, .ref b), (1, .ref q), (2, .ref mb), (3, .ref ao), (4, .int (nI i))] []) : V p l e room_1 s m args below meth c G Q 8 M cells slots 1054 [(0, .ref b), (1, .ref q), (2, .ref mb), (3, .ref ao), (4, .int (nI i))] [] := by
  have hj0 := hj
  obtain ⟨hw, ⟨hws, hwt, hwb⟩, ha0, hmt, ⟨hao, hao1⟩, han, hmn, hom⟩ := hj0
  subst ha0
  refine r_aload_n C 1 dL_law_1054 rfl rfl ?_
  refine r_aload_n C 0 dL_law_1055 rfl rfl ?_
  refine r_iload C 4 dL_law_1056 rfl ?_
  refine r_iconst C (v := nI 1) dL_law_1058 (by decide) ?_
  refine r_iaddN C dL_law_1059 ?_
  refine r_sld C hX hbl hbA hL (i := i + 1) (by omega) dL_law_1060 ?_
  refine r_aload_n C 3 dL_law_1061 rfl rfl ?_
  refine r_callH C hgX hl_order (c_L_order l hfl G M τ hw α hws hwt hwb (hk.ad hn9) (xs (i + 1)) ao hao hao1 han (fun _ => hw)) rfl (Nat.le_of_ble_eq_true rfl) (rm_hR (Nat.le_of_ble_eq_true rfl) (Nat.le_of_ble_eq_true rfl)) (rm_hf (by omega) (by omega)) dL_law_1062 rfl ?_
  intro v1 M1 hlp0
  obtain ⟨cc, hcc, hlp, hv1⟩ := LPo.ex hlp0
  subst hv1
  clear hlp0
  have hc3 : cc ≤ 3 := by rw [hcc]; exact cd1_le _
  have hmd := hj.mid hlp
  refine V.eSt (st' := [.int (nI cc)]) rfl ?_
  refine r_istore C (lo' := [(5, .int (nI cc)), (0, .ref b), (1, .ref (α 0)), (2, .ref mb), (3, .ref ao), (4, .int (nI i))]) dL_law_1065 (by decide) rfl ?_
  refine r_aload_n C 3 dL_law_1067 rfl rfl ?_
  refine r_aload_n C 1 dL_law_1068 rfl rfl ?_
  refine r_iload C 5 dL_law_1069 rfl ?_
  refine r_iconst C (v := nI 1) dL_law_1071 (by decide) ?_
  refine r_iaddN C dL_law_1072 ?_
  refine r_sld C hX hbl hbA hL (i := i + 1) (by omega) dL_law_1073 ?_
  refine r_callV C hgX (ci := 14) ml_L_178 im_X12_order se_X12_order rfl rfl hmd.1.1 (c_X12_order l hfl G M1 mb τ hmd.1 hmd.2.1 hw hmd.2.2.1 hmd.2.2.2 (xs (i + 1))) rfl (Nat.le_of_ble_eq_true rfl) (rm_hR (Nat.le_of_ble_eq_true rfl) (Nat.le_of_ble_eq_true rfl)) (rm_hf (by omega) (by omega)) dL_law_1074 rfl ?_
  intro v2 M2 hpp0
  have hpp := PP.ex hcc hpp0
  clear hpp0
  obtain ⟨be, hj2, hlk⟩ := hj.step2 (n := n9 + 1) (fun _ => ⟨hw, hk.up⟩) hk.up hlp hpp
  obtain ⟨x2, hx2⟩ := hpp.2.2.2.2.2
  subst hx2
  refine V.eSt (st' := [.int x2]) rfl ?_
  refine r_istore C (lo' := [(6, .int x2), (5, .int (nI cc)), (0, .ref b), (1, .ref (α 0)), (2, .ref mb), (3, .ref ao), (4, .int (nI i))]) dL_law_1077 (by decide) rfl ?_
  refine r_aload_n C 4 dL_law_1079 rfl rfl ?_
  refine r_callV C hgX (ci := 14) ml_L_138 im_X12_thrown se_X12_thrown rfl rfl hj2.2.2.2.1.1.1 (c_X12_thrown l hfl G M2 mb hj2.2.2.2.1.1) rfl (Nat.le_of_ble_eq_true rfl) (rm_hR (Nat.le_of_ble_eq_true rfl) (Nat.le_of_ble_eq_true rfl)) (rm_hf (by omega) (by omega)) dL_law_1080 rfl ?_
  intro v3 M3 h3
  obtain ⟨hv3, hM3⟩ := h3
  subst hv3
  subst hM3
  refine V.eSt (st' := [.int (nI cc)]) (congrArg (fun z_ => [Value.int z_]) hpp.1) ?_
  refine r_iload C 1 dL_law_1083 rfl ?_
  refine r_icmp_eqN C (t := 1090) (by omega) (by omega) dL_law_1085 (by decide) (fun c1085 => ?_) (fun c1085 => ?_)
  · skip
    refine r_iload C 1 dL_law_1090 rfl ?_
    refine r_if_neN C (t := 1107) (by omega) dL_law_1092 (by decide) (fun c1092 => ?_) (fun c1092 => ?_)
    · skip
      refine r_goto C (t := 2691) dL_law_1107 (by decide) ?_
      refine V.sub [2, 3, 4, 5, 6] (lo' := [(0, .ref b), (1, .ref (α 0)), (2, .ref mb), (3, .ref ao), (4, .int (nI i))]) rfl ?_
      refine V.widen (k := cells + 20) (n := slots + 4000) (by omega) (by omega) ?_
      exact kk _ be M2 hj2 hlk
    · skip
      refine r_aload_n C 5 dL_law_1095 rfl rfl ?_
      refine r_iconst C (v := nI 0) dL_law_1096 (by decide) ?_
      refine r_laloadN C hj2.2.2.2.2.1.1 hj2.2.2.2.2.1.2 (by omega) (by omega) dL_law_1097 ?_
      refine r_iload C 0 dL_law_1098 rfl ?_
      refine r_i2l C dL_law_1100 ?_
      have hA := hj.out hlp hpp c1092
      have hB := so_i (hpp.2.2.2.2.1 c1092).1
      refine r_lcmp_eq C (t := 1107) dL_law_1101 dL_law_1102 (by decide) (fun c1102 => ?_) (fun c1102 => ?_)
      · skip
        refine r_goto C (t := 2691) dL_law_1107 (by decide) ?_
        refine V.sub [2, 3, 4, 5, 6] (lo' := [(0, .ref b), (1, .ref (α 0)), (2, .ref mb), (3, .ref ao), (4, .int (nI i))]) rfl ?_
        refine V.widen (k := cells + 20) (n := slots + 4000) (by omega) (by omega) ?_
        exact kk _ be M2 hj2 hlk
      · exact absurd (by rw [hA, hB]) c1102
  · exact absurd rfl c1085
set_option maxHeartbeats 1000000 in
set_option maxRecDepth 100000 in
theorem lc_bonus (l : Launch) (hfl : l.flags = flags0) {p : Program} {e : Env} {s : State} {m : MethodId} {args : Array Value} {below : List Frame} {meth : Method} {c : Code} {G : gW} (C : Cx p l s m args meth c G RL cL_law 8) (hgX : gX G s s.heap) {b L : Nat} {xs : Nat → Int32} (hX : va_X b L xs s s.heap) (hbl : b < s.heap.size) (hbA : ¬ gA G b) (hL : L ≤ 4096) {i : Nat} (hi : i + 8 ≤ L) {τ : Mu} {α : Nat → Nat} {M : Mem} {q mb ao n9 : Nat} (hj : LJ τ G α M q mb ao) (hk : LK n9 τ) (hn9 : n9 ≤ 600) {cells slots : Nat} (hcs : cells ≤ 500000) (hss : slots ≤ 7000000) {Q : State → Prop} (kk : ∀ U be M2, LJ U G be M2 q mb ao → LK (n9 + 1) U → V p l e room_1 s m args below meth c G Q 8 M2 (cells + 20) (slots + 4000) 2691 [(0, .ref b), (1, .ref q), (2, .ref mb), (3, .ref ao), (4, .int (nI i))] []) : V p l e room_1 s m args below meth c G Q 8 M cells slots 1110 [(0, .ref b), (1, .ref q), (2, .ref mb), (3, .ref ao), (4, .int (nI i))] [] := by
  have hj0 := hj
  obtain ⟨hw, ⟨hws, hwt, hwb⟩, ha0, hmt, ⟨hao, hao1⟩, han, hmn, hom⟩ := hj0
  subst ha0
  refine r_aload_n C 1 dL_law_1110 rfl rfl ?_
  refine r_aload_n C 0 dL_law_1111 rfl rfl ?_
  refine r_iload C 4 dL_law_1112 rfl ?_
  refine r_iconst C (v := nI 1) dL_law_1114 (by decide) ?_
  refine r_iaddN C dL_law_1115 ?_
  refine r_sld C hX hbl hbA hL (i := i + 1) (by omega) dL_law_1116 ?_
  refine r_aload_n C 0 dL_law_1117 rfl rfl ?_
  refine r_iload C 4 dL_law_1118 rfl ?_
  refine r_iconst C (v := nI 2) dL_law_1120 (by decide) ?_
  refine r_iaddN C dL_law_1121 ?_
  refine r_sld C hX hbl hbA hL (i := i + 2) (by omega) dL_law_1122 ?_
  refine r_aload_n C 0 dL_law_1123 rfl rfl ?_
  refine r_iload C 4 dL_law_1124 rfl ?_
  refine r_iconst C (v := nI 3) dL_law_1126 (by decide) ?_
  refine r_iaddN C dL_law_1127 ?_
  refine r_sld C hX hbl hbA hL (i := i + 3) (by omega) dL_law_1128 ?_
  refine r_aload_n C 0 dL_law_1129 rfl rfl ?_
  refine r_iload C 4 dL_law_1130 rfl ?_
  refine r_iconst C (v := nI 4) dL_law_1132 (by decide) ?_
  refine r_iaddN C dL_law_1133 ?_
  refine r_sld C hX hbl hbA hL (i := i + 4) (by omega) dL_law_1134 ?_
  refine r_aload_n C 3 dL_law_1135 rfl rfl ?_
  refine r_callH C hgX hl_bonus (c_L_bonus l hfl G M τ hw α hws hwt hwb (hk.ad hn9) (xs (i + 1)) (xs (i + 2)) (xs (i + 3)) (xs (i + 4)) ao hao hao1 han (fun h_ => (lk_bonus hw hk hn9 h_).1)) rfl (Nat.le_of_ble_eq_true rfl) (rm_hR (Nat.le_of_ble_eq_true rfl) (Nat.le_of_ble_eq_true rfl)) (rm_hf (by omega) (by omega)) dL_law_1136 rfl ?_
  intro v1 M1 hlp0
  obtain ⟨cc, hcc, hlp, hv1⟩ := LPo.ex hlp0
  subst hv1
  clear hlp0
  have hc3 : cc ≤ 3 := by rw [hcc]; exact cd2_le _ _
  have hmd := hj.mid hlp
  refine V.eSt (st' := [.int (nI cc)]) rfl ?_
  refine r_istore C (lo' := [(5, .int (nI cc)), (0, .ref b), (1, .ref (α 0)), (2, .ref mb), (3, .ref ao), (4, .int (nI i))]) dL_law_1139 (by decide) rfl ?_
  refine r_aload_n C 3 dL_law_1141 rfl rfl ?_
  refine r_aload_n C 1 dL_law_1142 rfl rfl ?_
  refine r_iload C 5 dL_law_1143 rfl ?_
  refine r_iconst C (v := nI 1) dL_law_1145 (by decide) ?_
  refine r_iaddN C dL_law_1146 ?_
  refine r_sld C hX hbl hbA hL (i := i + 1) (by omega) dL_law_1147 ?_
  refine r_aload_n C 1 dL_law_1148 rfl rfl ?_
  refine r_iload C 5 dL_law_1149 rfl ?_
  refine r_iconst C (v := nI 2) dL_law_1151 (by decide) ?_
  refine r_iaddN C dL_law_1152 ?_
  refine r_sld C hX hbl hbA hL (i := i + 2) (by omega) dL_law_1153 ?_
  refine r_aload_n C 1 dL_law_1154 rfl rfl ?_
  refine r_iload C 5 dL_law_1155 rfl ?_
  refine r_iconst C (v := nI 3) dL_law_1157 (by decide) ?_
  refine r_iaddN C dL_law_1158 ?_
  refine r_sld C hX hbl hbA hL (i := i + 3) (by omega) dL_law_1159 ?_
  refine r_aload_n C 1 dL_law_1160 rfl rfl ?_
  refine r_iload C 5 dL_law_1161 rfl ?_
  refine r_iconst C (v := nI 4) dL_law_1163 (by decide) ?_
  refine r_iaddN C dL_law_1164 ?_
  refine r_sld C hX hbl hbA hL (i := i + 4) (by omega) dL_law_1165 ?_
  refine r_callV C hgX (ci := 14) ml_L_181 im_X12_bonus se_X12_bonus rfl rfl hmd.1.1 (c_X12_bonus l hfl G M1 mb τ hmd.1 hmd.2.1 hw hmd.2.2.1 hmd.2.2.2 (xs (i + 1)) (xs (i + 2)) (xs (i + 3)) (xs (i + 4))) rfl (Nat.le_of_ble_eq_true rfl) (rm_hR (Nat.le_of_ble_eq_true rfl) (Nat.le_of_ble_eq_true rfl)) (rm_hf (by omega) (by omega)) dL_law_1166 rfl ?_
  intro v2 M2 hpp0
  have hpp := PP.ex hcc hpp0
  clear hpp0
  obtain ⟨be, hj2, hlk⟩ := hj.step2 (n := n9 + 1) (fun h_ => lk_bonus hw hk hn9 (hcc.symm.trans h_)) hk.up hlp hpp
  obtain ⟨x2, hx2⟩ := hpp.2.2.2.2.2
  subst hx2
  refine V.eSt (st' := [.int x2]) rfl ?_
  refine r_istore C (lo' := [(6, .int x2), (5, .int (nI cc)), (0, .ref b), (1, .ref (α 0)), (2, .ref mb), (3, .ref ao), (4, .int (nI i))]) dL_law_1169 (by decide) rfl ?_
  refine r_aload_n C 4 dL_law_1171 rfl rfl ?_
  refine r_callV C hgX (ci := 14) ml_L_138 im_X12_thrown se_X12_thrown rfl rfl hj2.2.2.2.1.1.1 (c_X12_thrown l hfl G M2 mb hj2.2.2.2.1.1) rfl (Nat.le_of_ble_eq_true rfl) (rm_hR (Nat.le_of_ble_eq_true rfl) (Nat.le_of_ble_eq_true rfl)) (rm_hf (by omega) (by omega)) dL_law_1172 rfl ?_
  intro v3 M3 h3
  obtain ⟨hv3, hM3⟩ := h3
  subst hv3
  subst hM3
  refine V.eSt (st' := [.int (nI cc)]) (congrArg (fun z_ => [Value.int z_]) hpp.1) ?_
  refine r_iload C 1 dL_law_1175 rfl ?_
  refine r_icmp_eqN C (t := 1182) (by omega) (by omega) dL_law_1177 (by decide) (fun c1177 => ?_) (fun c1177 => ?_)
  · skip
    refine r_iload C 1 dL_law_1182 rfl ?_
    refine r_if_neN C (t := 1199) (by omega) dL_law_1184 (by decide) (fun c1184 => ?_) (fun c1184 => ?_)
    · skip
      refine r_goto C (t := 2691) dL_law_1199 (by decide) ?_
      refine V.sub [2, 3, 4, 5, 6] (lo' := [(0, .ref b), (1, .ref (α 0)), (2, .ref mb), (3, .ref ao), (4, .int (nI i))]) rfl ?_
      refine V.widen (k := cells + 20) (n := slots + 4000) (by omega) (by omega) ?_
      exact kk _ be M2 hj2 hlk
    · skip
      refine r_aload_n C 5 dL_law_1187 rfl rfl ?_
      refine r_iconst C (v := nI 0) dL_law_1188 (by decide) ?_
      refine r_laloadN C hj2.2.2.2.2.1.1 hj2.2.2.2.2.1.2 (by omega) (by omega) dL_law_1189 ?_
      refine r_iload C 0 dL_law_1190 rfl ?_
      refine r_i2l C dL_law_1192 ?_
      have hA := hj.out hlp hpp c1184
      have hB := so_i (hpp.2.2.2.2.1 c1184).1
      refine r_lcmp_eq C (t := 1199) dL_law_1193 dL_law_1194 (by decide) (fun c1194 => ?_) (fun c1194 => ?_)
      · skip
        refine r_goto C (t := 2691) dL_law_1199 (by decide) ?_
        refine V.sub [2, 3, 4, 5, 6] (lo' := [(0, .ref b), (1, .ref (α 0)), (2, .ref mb), (3, .ref ao), (4, .int (nI i))]) rfl ?_
        refine V.widen (k := cells + 20) (n := slots + 4000) (by omega) (by omega) ?_
        exact kk _ be M2 hj2 hlk
      · exact absurd (by rw [hA, hB]) c1194
  · exact absurd rfl c1177
set_option maxHeartbeats 1000000 in
set_option maxRecDepth 100000 in
theorem lc_contribution (l : Launch) (hfl : l.flags = flags0) {p : Program} {e : Env} {s : State} {m : MethodId} {args : Array Value} {below : List Frame} {meth : Method} {c : Code} {G : gW} (C : Cx p l s m args meth c G RL cL_law 8) (hgX : gX G s s.heap) {b L : Nat} {xs : Nat → Int32} (hX : va_X b L xs s s.heap) (hbl : b < s.heap.size) (hbA : ¬ gA G b) (hL : L ≤ 4096) {i : Nat} (hi : i + 8 ≤ L) {τ : Mu} {α : Nat → Nat} {M : Mem} {q mb ao n9 : Nat} (hj : LJ τ G α M q mb ao) (hk : LK n9 τ) (hn9 : n9 ≤ 600) {cells slots : Nat} (hcs : cells ≤ 500000) (hss : slots ≤ 7000000) {Q : State → Prop} (kk : ∀ U be M2, LJ U G be M2 q mb ao → LK (n9 + 1) U → V p l e room_1 s m args below meth c G Q 8 M2 (cells + 20) (slots + 4000) 2691 [(0, .ref b), (1, .ref q), (2, .ref mb), (3, .ref ao), (4, .int (nI i))] []) : V p l e room_1 s m args below meth c G Q 8 M cells slots 1202 [(0, .ref b), (1, .ref q), (2, .ref mb), (3, .ref ao), (4, .int (nI i))] [] := by
  have hj0 := hj
  obtain ⟨hw, ⟨hws, hwt, hwb⟩, ha0, hmt, ⟨hao, hao1⟩, han, hmn, hom⟩ := hj0
  subst ha0
  refine r_aload_n C 1 dL_law_1202 rfl rfl ?_
  refine r_aload_n C 0 dL_law_1203 rfl rfl ?_
  refine r_iload C 4 dL_law_1204 rfl ?_
  refine r_iconst C (v := nI 1) dL_law_1206 (by decide) ?_
  refine r_iaddN C dL_law_1207 ?_
  refine r_sld C hX hbl hbA hL (i := i + 1) (by omega) dL_law_1208 ?_
  refine r_aload_n C 0 dL_law_1209 rfl rfl ?_
  refine r_iload C 4 dL_law_1210 rfl ?_
  refine r_iconst C (v := nI 2) dL_law_1212 (by decide) ?_
  refine r_iaddN C dL_law_1213 ?_
  refine r_sld C hX hbl hbA hL (i := i + 2) (by omega) dL_law_1214 ?_
  refine r_aload_n C 0 dL_law_1215 rfl rfl ?_
  refine r_iload C 4 dL_law_1216 rfl ?_
  refine r_iconst C (v := nI 3) dL_law_1218 (by decide) ?_
  refine r_iaddN C dL_law_1219 ?_
  refine r_sld C hX hbl hbA hL (i := i + 3) (by omega) dL_law_1220 ?_
  refine r_aload_n C 0 dL_law_1221 rfl rfl ?_
  refine r_iload C 4 dL_law_1222 rfl ?_
  refine r_iconst C (v := nI 4) dL_law_1224 (by decide) ?_
  refine r_iaddN C dL_law_1225 ?_
  refine r_sld C hX hbl hbA hL (i := i + 4) (by omega) dL_law_1226 ?_
  refine r_callH C hgX hl_contribution (c_L_contribution l hfl G M τ hw α hws hwt hwb (hk.ad hn9) (xs (i + 1)) (xs (i + 2)) (xs (i + 3)) (xs (i + 4)) ao (fun h_ => (lk_contribution hw hk hn9 h_).1)) rfl (Nat.le_of_ble_eq_true rfl) (rm_hR (Nat.le_of_ble_eq_true rfl) (Nat.le_of_ble_eq_true rfl)) (rm_hf (by omega) (by omega)) dL_law_1227 rfl ?_
  intro v1 M1 hlp0
  obtain ⟨cc, hcc, hlp, hv1⟩ := LPo.ex hlp0
  subst hv1
  clear hlp0
  have hc3 : cc ≤ 3 := by rw [hcc]; exact cd2_le _ _
  have hmd := hj.mid hlp
  refine V.eSt (st' := [.int (nI cc)]) rfl ?_
  refine r_istore C (lo' := [(5, .int (nI cc)), (0, .ref b), (1, .ref (α 0)), (2, .ref mb), (3, .ref ao), (4, .int (nI i))]) dL_law_1230 (by decide) rfl ?_
  refine r_aload_n C 3 dL_law_1232 rfl rfl ?_
  refine r_aload_n C 1 dL_law_1233 rfl rfl ?_
  refine r_iload C 5 dL_law_1234 rfl ?_
  refine r_iconst C (v := nI 1) dL_law_1236 (by decide) ?_
  refine r_iaddN C dL_law_1237 ?_
  refine r_sld C hX hbl hbA hL (i := i + 1) (by omega) dL_law_1238 ?_
  refine r_aload_n C 1 dL_law_1239 rfl rfl ?_
  refine r_iload C 5 dL_law_1240 rfl ?_
  refine r_iconst C (v := nI 2) dL_law_1242 (by decide) ?_
  refine r_iaddN C dL_law_1243 ?_
  refine r_sld C hX hbl hbA hL (i := i + 2) (by omega) dL_law_1244 ?_
  refine r_aload_n C 1 dL_law_1245 rfl rfl ?_
  refine r_iload C 5 dL_law_1246 rfl ?_
  refine r_iconst C (v := nI 3) dL_law_1248 (by decide) ?_
  refine r_iaddN C dL_law_1249 ?_
  refine r_sld C hX hbl hbA hL (i := i + 3) (by omega) dL_law_1250 ?_
  refine r_aload_n C 1 dL_law_1251 rfl rfl ?_
  refine r_iload C 5 dL_law_1252 rfl ?_
  refine r_iconst C (v := nI 4) dL_law_1254 (by decide) ?_
  refine r_iaddN C dL_law_1255 ?_
  refine r_sld C hX hbl hbA hL (i := i + 4) (by omega) dL_law_1256 ?_
  refine r_callV C hgX (ci := 14) ml_L_185 im_X12_contribution se_X12_contribution rfl rfl hmd.1.1 (c_X12_contribution l hfl G M1 mb τ hmd.1 hmd.2.1 hw hmd.2.2.1 hmd.2.2.2 (xs (i + 1)) (xs (i + 2)) (xs (i + 3)) (xs (i + 4))) rfl (Nat.le_of_ble_eq_true rfl) (rm_hR (Nat.le_of_ble_eq_true rfl) (Nat.le_of_ble_eq_true rfl)) (rm_hf (by omega) (by omega)) dL_law_1257 rfl ?_
  intro v2 M2 hpp0
  have hpp := PP.ex hcc hpp0
  clear hpp0
  obtain ⟨be, hj2, hlk⟩ := hj.step2 (n := n9 + 1) (fun h_ => lk_contribution hw hk hn9 (hcc.symm.trans h_)) hk.up hlp hpp
  have hx2 : v2 = none := hpp.2.2.2.2.2
  subst hx2
  refine V.eSt (st' := []) rfl ?_
  refine r_aload_n C 3 dL_law_1260 rfl rfl ?_
  refine r_callV C hgX (ci := 14) ml_L_138 im_X12_thrown se_X12_thrown rfl rfl hj2.2.2.2.1.1.1 (c_X12_thrown l hfl G M2 mb hj2.2.2.2.1.1) rfl (Nat.le_of_ble_eq_true rfl) (rm_hR (Nat.le_of_ble_eq_true rfl) (Nat.le_of_ble_eq_true rfl)) (rm_hf (by omega) (by omega)) dL_law_1261 rfl ?_
  intro v3 M3 h3
  obtain ⟨hv3, hM3⟩ := h3
  subst hv3
  subst hM3
  refine V.eSt (st' := [.int (nI cc)]) (congrArg (fun z_ => [Value.int z_]) hpp.1) ?_
  refine r_iload C 0 dL_law_1264 rfl ?_
  refine r_icmp_eqN C (t := 1271) (by omega) (by omega) dL_law_1266 (by decide) (fun c1266 => ?_) (fun c1266 => ?_)
  · skip
    refine r_goto C (t := 2691) dL_law_1271 (by decide) ?_
    refine V.sub [1, 2, 3, 4, 5] (lo' := [(0, .ref b), (1, .ref (α 0)), (2, .ref mb), (3, .ref ao), (4, .int (nI i))]) rfl ?_
    refine V.widen (k := cells + 20) (n := slots + 4000) (by omega) (by omega) ?_
    exact kk _ be M2 hj2 hlk
  · exact absurd rfl c1266
set_option maxHeartbeats 1000000 in
set_option maxRecDepth 100000 in
theorem lc_bracket (l : Launch) (hfl : l.flags = flags0) {p : Program} {e : Env} {s : State} {m : MethodId} {args : Array Value} {below : List Frame} {meth : Method} {c : Code} {G : gW} (C : Cx p l s m args meth c G RL cL_law 8) (hgX : gX G s s.heap) {b L : Nat} {xs : Nat → Int32} (hX : va_X b L xs s s.heap) (hbl : b < s.heap.size) (hbA : ¬ gA G b) (hL : L ≤ 4096) {i : Nat} (hi : i + 8 ≤ L) {τ : Mu} {α : Nat → Nat} {M : Mem} {q mb ao n9 : Nat} (hj : LJ τ G α M q mb ao) (hk : LK n9 τ) (hn9 : n9 ≤ 600) {cells slots : Nat} (hcs : cells ≤ 500000) (hss : slots ≤ 7000000) {Q : State → Prop} (kk : ∀ U be M2, LJ U G be M2 q mb ao → LK (n9 + 1) U → V p l e room_1 s m args below meth c G Q 8 M2 (cells + 20) (slots + 4000) 2691 [(0, .ref b), (1, .ref q), (2, .ref mb), (3, .ref ao), (4, .int (nI i))] []) : V p l e room_1 s m args below meth c G Q 8 M cells slots 1274 [(0, .ref b), (1, .ref q), (2, .ref mb), (3, .ref ao), (4, .int (nI i))] [] := by
  have hj0 := hj
  obtain ⟨hw, ⟨hws, hwt, hwb⟩, ha0, hmt, ⟨hao, hao1⟩, han, hmn, hom⟩ := hj0
  subst ha0
  refine r_aload_n C 1 dL_law_1274 rfl rfl ?_
  refine r_aload_n C 0 dL_law_1275 rfl rfl ?_
  refine r_iload C 4 dL_law_1276 rfl ?_
  refine r_iconst C (v := nI 1) dL_law_1278 (by decide) ?_
  refine r_iaddN C dL_law_1279 ?_
  refine r_sld C hX hbl hbA hL (i := i + 1) (by omega) dL_law_1280 ?_
  refine r_aload_n C 0 dL_law_1281 rfl rfl ?_
  refine r_iload C 4 dL_law_1282 rfl ?_
  refine r_iconst C (v := nI 2) dL_law_1284 (by decide) ?_
  refine r_iaddN C dL_law_1285 ?_
  refine r_sld C hX hbl hbA hL (i := i + 2) (by omega) dL_law_1286 ?_
  refine r_aload_n C 0 dL_law_1287 rfl rfl ?_
  refine r_iload C 4 dL_law_1288 rfl ?_
  refine r_iconst C (v := nI 3) dL_law_1290 (by decide) ?_
  refine r_iaddN C dL_law_1291 ?_
  refine r_sld C hX hbl hbA hL (i := i + 3) (by omega) dL_law_1292 ?_
  refine r_aload_n C 0 dL_law_1293 rfl rfl ?_
  refine r_iload C 4 dL_law_1294 rfl ?_
  refine r_iconst C (v := nI 4) dL_law_1296 (by decide) ?_
  refine r_iaddN C dL_law_1297 ?_
  refine r_sld C hX hbl hbA hL (i := i + 4) (by omega) dL_law_1298 ?_
  refine r_aload_n C 0 dL_law_1299 rfl rfl ?_
  refine r_iload C 4 dL_law_1300 rfl ?_
  refine r_iconst C (v := nI 5) dL_law_1302 (by decide) ?_
  refine r_iaddN C dL_law_1303 ?_
  refine r_sld C hX hbl hbA hL (i := i + 5) (by omega) dL_law_1304 ?_
  refine r_aload_n C 3 dL_law_1305 rfl rfl ?_
  refine r_callH C hgX hl_bracket (c_L_bracket l hfl G M τ hw α hws hwt hwb (hk.ad hn9) (xs (i + 1)) (xs (i + 2)) (xs (i + 3)) (xs (i + 4)) (xs (i + 5)) ao hao hao1 han (fun h_ => (lk_bracket hw hk hn9 h_).1)) rfl (Nat.le_of_ble_eq_true rfl) (rm_hR (Nat.le_of_ble_eq_true rfl) (Nat.le_of_ble_eq_true rfl)) (rm_hf (by omega) (by omega)) dL_law_1306 rfl ?_
  intro v1 M1 hlp0
  obtain ⟨cc, hcc, hlp, hv1⟩ := LPo.ex hlp0
  subst hv1
  clear hlp0
  have hc3 : cc ≤ 3 := by rw [hcc]; exact cd3_le _ _ _
  have hmd := hj.mid hlp
  refine V.eSt (st' := [.int (nI cc)]) rfl ?_
  refine r_istore C (lo' := [(5, .int (nI cc)), (0, .ref b), (1, .ref (α 0)), (2, .ref mb), (3, .ref ao), (4, .int (nI i))]) dL_law_1309 (by decide) rfl ?_
  refine r_aload_n C 3 dL_law_1311 rfl rfl ?_
  refine r_aload_n C 1 dL_law_1312 rfl rfl ?_
  refine r_iload C 5 dL_law_1313 rfl ?_
  refine r_iconst C (v := nI 1) dL_law_1315 (by decide) ?_
  refine r_iaddN C dL_law_1316 ?_
  refine r_sld C hX hbl hbA hL (i := i + 1) (by omega) dL_law_1317 ?_
  refine r_aload_n C 1 dL_law_1318 rfl rfl ?_
  refine r_iload C 5 dL_law_1319 rfl ?_
  refine r_iconst C (v := nI 2) dL_law_1321 (by decide) ?_
  refine r_iaddN C dL_law_1322 ?_
  refine r_sld C hX hbl hbA hL (i := i + 2) (by omega) dL_law_1323 ?_
  refine r_aload_n C 1 dL_law_1324 rfl rfl ?_
  refine r_iload C 5 dL_law_1325 rfl ?_
  refine r_iconst C (v := nI 3) dL_law_1327 (by decide) ?_
  refine r_iaddN C dL_law_1328 ?_
  refine r_sld C hX hbl hbA hL (i := i + 3) (by omega) dL_law_1329 ?_
  refine r_aload_n C 1 dL_law_1330 rfl rfl ?_
  refine r_iload C 5 dL_law_1331 rfl ?_
  refine r_iconst C (v := nI 4) dL_law_1333 (by decide) ?_
  refine r_iaddN C dL_law_1334 ?_
  refine r_sld C hX hbl hbA hL (i := i + 4) (by omega) dL_law_1335 ?_
  refine r_aload_n C 1 dL_law_1336 rfl rfl ?_
  refine r_iload C 5 dL_law_1337 rfl ?_
  refine r_iconst C (v := nI 5) dL_law_1339 (by decide) ?_
  refine r_iaddN C dL_law_1340 ?_
  refine r_sld C hX hbl hbA hL (i := i + 5) (by omega) dL_law_1341 ?_
  refine r_callV C hgX (ci := 14) ml_L_189 im_X12_bracket se_X12_bracket rfl rfl hmd.1.1 (c_X12_bracket l hfl G M1 mb τ hmd.1 hmd.2.1 hw hmd.2.2.1 hmd.2.2.2 (xs (i + 1)) (xs (i + 2)) (xs (i + 3)) (xs (i + 4)) (xs (i + 5))) rfl (Nat.le_of_ble_eq_true rfl) (rm_hR (Nat.le_of_ble_eq_true rfl) (Nat.le_of_ble_eq_true rfl)) (rm_hf (by omega) (by omega)) dL_law_1342 rfl ?_
  intro v2 M2 hpp0
  have hpp := PP.ex hcc hpp0
  clear hpp0
  obtain ⟨be, hj2, hlk⟩ := hj.step2 (n := n9 + 1) (fun h_ => lk_bracket hw hk hn9 (hcc.symm.trans h_)) hk.up hlp hpp
  obtain ⟨x2, hx2⟩ := hpp.2.2.2.2.2
  subst hx2
  refine V.eSt (st' := [.int x2]) rfl ?_
  refine r_istore C (lo' := [(6, .int x2), (5, .int (nI cc)), (0, .ref b), (1, .ref (α 0)), (2, .ref mb), (3, .ref ao), (4, .int (nI i))]) dL_law_1345 (by decide) rfl ?_
  refine r_aload_n C 4 dL_law_1347 rfl rfl ?_
  refine r_callV C hgX (ci := 14) ml_L_138 im_X12_thrown se_X12_thrown rfl rfl hj2.2.2.2.1.1.1 (c_X12_thrown l hfl G M2 mb hj2.2.2.2.1.1) rfl (Nat.le_of_ble_eq_true rfl) (rm_hR (Nat.le_of_ble_eq_true rfl) (Nat.le_of_ble_eq_true rfl)) (rm_hf (by omega) (by omega)) dL_law_1348 rfl ?_
  intro v3 M3 h3
  obtain ⟨hv3, hM3⟩ := h3
  subst hv3
  subst hM3
  refine V.eSt (st' := [.int (nI cc)]) (congrArg (fun z_ => [Value.int z_]) hpp.1) ?_
  refine r_iload C 1 dL_law_1351 rfl ?_
  refine r_icmp_eqN C (t := 1358) (by omega) (by omega) dL_law_1353 (by decide) (fun c1353 => ?_) (fun c1353 => ?_)
  · skip
    refine r_iload C 1 dL_law_1358 rfl ?_
    refine r_if_neN C (t := 1375) (by omega) dL_law_1360 (by decide) (fun c1360 => ?_) (fun c1360 => ?_)
    · skip
      refine r_goto C (t := 2691) dL_law_1375 (by decide) ?_
      refine V.sub [2, 3, 4, 5, 6] (lo' := [(0, .ref b), (1, .ref (α 0)), (2, .ref mb), (3, .ref ao), (4, .int (nI i))]) rfl ?_
      refine V.widen (k := cells + 20) (n := slots + 4000) (by omega) (by omega) ?_
      exact kk _ be M2 hj2 hlk
    · skip
      refine r_aload_n C 5 dL_law_1363 rfl rfl ?_
      refine r_iconst C (v := nI 0) dL_law_1364 (by decide) ?_
      refine r_laloadN C hj2.2.2.2.2.1.1 hj2.2.2.2.2.1.2 (by omega) (by omega) dL_law_1365 ?_
      refine r_iload C 0 dL_law_1366 rfl ?_
      refine r_i2l C dL_law_1368 ?_
      have hA := hj.out hlp hpp c1360
      have hB := so_i (hpp.2.2.2.2.1 c1360).1
      refine r_lcmp_eq C (t := 1375) dL_law_1369 dL_law_1370 (by decide) (fun c1370 => ?_) (fun c1370 => ?_)
      · skip
        refine r_goto C (t := 2691) dL_law_1375 (by decide) ?_
        refine V.sub [2, 3, 4, 5, 6] (lo' := [(0, .ref b), (1, .ref (α 0)), (2, .ref mb), (3, .ref ao), (4, .int (nI i))]) rfl ?_
        refine V.widen (k := cells + 20) (n := slots + 4000) (by omega) (by omega) ?_
        exact kk _ be M2 hj2 hlk
      · exact absurd (by rw [hA, hB]) c1370
  · exact absurd rfl c1353
set_option maxHeartbeats 1000000 in
set_option maxRecDepth 100000 in
theorem lc_state (l : Launch) (hfl : l.flags = flags0) {p : Program} {e : Env} {s : State} {m : MethodId} {args : Array Value} {below : List Frame} {meth : Method} {c : Code} {G : gW} (C : Cx p l s m args meth c G RL cL_law 8) (hgX : gX G s s.heap) {b L : Nat} {xs : Nat → Int32} (hX : va_X b L xs s s.heap) (hbl : b < s.heap.size) (hbA : ¬ gA G b) (hL : L ≤ 4096) {i : Nat} (hi : i + 8 ≤ L) {τ : Mu} {α : Nat → Nat} {M : Mem} {q mb ao n9 : Nat} (hj : LJ τ G α M q mb ao) (hk : LK n9 τ) (hn9 : n9 ≤ 600) {cells slots : Nat} (hcs : cells ≤ 500000) (hss : slots ≤ 7000000) {Q : State → Prop} (kk : ∀ U be M2, LJ U G be M2 q mb ao → LK (n9 + 1) U → V p l e room_1 s m args below meth c G Q 8 M2 (cells + 20) (slots + 4000) 2691 [(0, .ref b), (1, .ref q), (2, .ref mb), (3, .ref ao), (4, .int (nI i))] []) : V p l e room_1 s m args below meth c G Q 8 M cells slots 1378 [(0, .ref b), (1, .ref q), (2, .ref mb), (3, .ref ao), (4, .int (nI i))] [] := by
  have hj0 := hj
  obtain ⟨hw, ⟨hws, hwt, hwb⟩, ha0, hmt, ⟨hao, hao1⟩, han, hmn, hom⟩ := hj0
  subst ha0
  refine r_aload_n C 1 dL_law_1378 rfl rfl ?_
  refine r_aload_n C 0 dL_law_1379 rfl rfl ?_
  refine r_iload C 4 dL_law_1380 rfl ?_
  refine r_iconst C (v := nI 1) dL_law_1382 (by decide) ?_
  refine r_iaddN C dL_law_1383 ?_
  refine r_sld C hX hbl hbA hL (i := i + 1) (by omega) dL_law_1384 ?_
  refine r_aload_n C 0 dL_law_1385 rfl rfl ?_
  refine r_iload C 4 dL_law_1386 rfl ?_
  refine r_iconst C (v := nI 2) dL_law_1388 (by decide) ?_
  refine r_iaddN C dL_law_1389 ?_
  refine r_sld C hX hbl hbA hL (i := i + 2) (by omega) dL_law_1390 ?_
  refine r_aload_n C 0 dL_law_1391 rfl rfl ?_
  refine r_iload C 4 dL_law_1392 rfl ?_
  refine r_iconst C (v := nI 3) dL_law_1394 (by decide) ?_
  refine r_iaddN C dL_law_1395 ?_
  refine r_sld C hX hbl hbA hL (i := i + 3) (by omega) dL_law_1396 ?_
  refine r_callH C hgX hl_state (c_L_state l hfl G M τ hw α hws hwt hwb (hk.ad hn9) (xs (i + 1)) (xs (i + 2)) (xs (i + 3)) ao (fun h_ => (lk_state hw hk hn9 h_).1)) rfl (Nat.le_of_ble_eq_true rfl) (rm_hR (Nat.le_of_ble_eq_true rfl) (Nat.le_of_ble_eq_true rfl)) (rm_hf (by omega) (by omega)) dL_law_1397 rfl ?_
  intro v1 M1 hlp0
  obtain ⟨cc, hcc, hlp, hv1⟩ := LPo.ex hlp0
  subst hv1
  clear hlp0
  have hc3 : cc ≤ 3 := by rw [hcc]; exact cd2_le _ _
  have hmd := hj.mid hlp
  refine V.eSt (st' := [.int (nI cc)]) rfl ?_
  refine r_istore C (lo' := [(5, .int (nI cc)), (0, .ref b), (1, .ref (α 0)), (2, .ref mb), (3, .ref ao), (4, .int (nI i))]) dL_law_1400 (by decide) rfl ?_
  refine r_aload_n C 3 dL_law_1402 rfl rfl ?_
  refine r_aload_n C 1 dL_law_1403 rfl rfl ?_
  refine r_iload C 5 dL_law_1404 rfl ?_
  refine r_iconst C (v := nI 1) dL_law_1406 (by decide) ?_
  refine r_iaddN C dL_law_1407 ?_
  refine r_sld C hX hbl hbA hL (i := i + 1) (by omega) dL_law_1408 ?_
  refine r_aload_n C 1 dL_law_1409 rfl rfl ?_
  refine r_iload C 5 dL_law_1410 rfl ?_
  refine r_iconst C (v := nI 2) dL_law_1412 (by decide) ?_
  refine r_iaddN C dL_law_1413 ?_
  refine r_sld C hX hbl hbA hL (i := i + 2) (by omega) dL_law_1414 ?_
  refine r_aload_n C 1 dL_law_1415 rfl rfl ?_
  refine r_iload C 5 dL_law_1416 rfl ?_
  refine r_iconst C (v := nI 3) dL_law_1418 (by decide) ?_
  refine r_iaddN C dL_law_1419 ?_
  refine r_sld C hX hbl hbA hL (i := i + 3) (by omega) dL_law_1420 ?_
  refine r_callV C hgX (ci := 14) ml_L_192 im_X12_state se_X12_state rfl rfl hmd.1.1 (c_X12_state l hfl G M1 mb τ hmd.1 hmd.2.1 hw hmd.2.2.1 hmd.2.2.2 (xs (i + 1)) (xs (i + 2)) (xs (i + 3))) rfl (Nat.le_of_ble_eq_true rfl) (rm_hR (Nat.le_of_ble_eq_true rfl) (Nat.le_of_ble_eq_true rfl)) (rm_hf (by omega) (by omega)) dL_law_1421 rfl ?_
  intro v2 M2 hpp0
  have hpp := PP.ex hcc hpp0
  clear hpp0
  obtain ⟨be, hj2, hlk⟩ := hj.step2 (n := n9 + 1) (fun h_ => lk_state hw hk hn9 (hcc.symm.trans h_)) hk.up hlp hpp
  have hx2 : v2 = none := hpp.2.2.2.2.2
  subst hx2
  refine V.eSt (st' := []) rfl ?_
  refine r_aload_n C 3 dL_law_1424 rfl rfl ?_
  refine r_callV C hgX (ci := 14) ml_L_138 im_X12_thrown se_X12_thrown rfl rfl hj2.2.2.2.1.1.1 (c_X12_thrown l hfl G M2 mb hj2.2.2.2.1.1) rfl (Nat.le_of_ble_eq_true rfl) (rm_hR (Nat.le_of_ble_eq_true rfl) (Nat.le_of_ble_eq_true rfl)) (rm_hf (by omega) (by omega)) dL_law_1425 rfl ?_
  intro v3 M3 h3
  obtain ⟨hv3, hM3⟩ := h3
  subst hv3
  subst hM3
  refine V.eSt (st' := [.int (nI cc)]) (congrArg (fun z_ => [Value.int z_]) hpp.1) ?_
  refine r_iload C 0 dL_law_1428 rfl ?_
  refine r_icmp_eqN C (t := 1435) (by omega) (by omega) dL_law_1430 (by decide) (fun c1430 => ?_) (fun c1430 => ?_)
  · skip
    refine r_goto C (t := 2691) dL_law_1435 (by decide) ?_
    refine V.sub [1, 2, 3, 4, 5] (lo' := [(0, .ref b), (1, .ref (α 0)), (2, .ref mb), (3, .ref ao), (4, .int (nI i))]) rfl ?_
    refine V.widen (k := cells + 20) (n := slots + 4000) (by omega) (by omega) ?_
    exact kk _ be M2 hj2 hlk
  · exact absurd rfl c1430
set_option maxHeartbeats 1000000 in
set_option maxRecDepth 100000 in
theorem lc_pension (l : Launch) (hfl : l.flags = flags0) {p : Program} {e : Env} {s : State} {m : MethodId} {args : Array Value} {below : List Frame} {meth : Method} {c : Code} {G : gW} (C : Cx p l s m args meth c G RL cL_law 8) (hgX : gX G s s.heap) {b L : Nat} {xs : Nat → Int32} (hX : va_X b L xs s s.heap) (hbl : b < s.heap.size) (hbA : ¬ gA G b) (hL : L ≤ 4096) {i : Nat} (hi : i + 8 ≤ L) {τ : Mu} {α : Nat → Nat} {M : Mem} {q mb ao n9 : Nat} (hj : LJ τ G α M q mb ao) (hk : LK n9 τ) (hn9 : n9 ≤ 600) {cells slots : Nat} (hcs : cells ≤ 500000) (hss : slots ≤ 7000000) {Q : State → Prop} (kk : ∀ U be M2, LJ U G be M2 q mb ao → LK (n9 + 1) U → V p l e room_1 s m args below meth c G Q 8 M2 (cells + 20) (slots + 4000) 2691 [(0, .ref b), (1, .ref q), (2, .ref mb), (3, .ref ao), (4, .int (nI i))] []) : V p l e room_1 s m args below meth c G Q 8 M cells slots 1438 [(0, .ref b), (1, .ref q), (2, .ref mb), (3, .ref ao), (4, .int (nI i))] [] := by
  have hj0 := hj
  obtain ⟨hw, ⟨hws, hwt, hwb⟩, ha0, hmt, ⟨hao, hao1⟩, han, hmn, hom⟩ := hj0
  subst ha0
  refine r_aload_n C 1 dL_law_1438 rfl rfl ?_
  refine r_aload_n C 0 dL_law_1439 rfl rfl ?_
  refine r_iload C 4 dL_law_1440 rfl ?_
  refine r_iconst C (v := nI 1) dL_law_1442 (by decide) ?_
  refine r_iaddN C dL_law_1443 ?_
  refine r_sld C hX hbl hbA hL (i := i + 1) (by omega) dL_law_1444 ?_
  refine r_aload_n C 0 dL_law_1445 rfl rfl ?_
  refine r_iload C 4 dL_law_1446 rfl ?_
  refine r_iconst C (v := nI 2) dL_law_1448 (by decide) ?_
  refine r_iaddN C dL_law_1449 ?_
  refine r_sld C hX hbl hbA hL (i := i + 2) (by omega) dL_law_1450 ?_
  refine r_aload_n C 0 dL_law_1451 rfl rfl ?_
  refine r_iload C 4 dL_law_1452 rfl ?_
  refine r_iconst C (v := nI 3) dL_law_1454 (by decide) ?_
  refine r_iaddN C dL_law_1455 ?_
  refine r_sld C hX hbl hbA hL (i := i + 3) (by omega) dL_law_1456 ?_
  refine r_callH C hgX hl_pension (c_L_pension l hfl G M τ hw α hws hwt hwb (hk.ad hn9) (xs (i + 1)) (xs (i + 2)) (xs (i + 3)) ao (fun h_ => (lk_pension hw hk hn9 h_).1)) rfl (Nat.le_of_ble_eq_true rfl) (rm_hR (Nat.le_of_ble_eq_true rfl) (Nat.le_of_ble_eq_true rfl)) (rm_hf (by omega) (by omega)) dL_law_1457 rfl ?_
  intro v1 M1 hlp0
  obtain ⟨cc, hcc, hlp, hv1⟩ := LPo.ex hlp0
  subst hv1
  clear hlp0
  have hc3 : cc ≤ 3 := by rw [hcc]; exact cd2_le _ _
  have hmd := hj.mid hlp
  refine V.eSt (st' := [.int (nI cc)]) rfl ?_
  refine r_istore C (lo' := [(5, .int (nI cc)), (0, .ref b), (1, .ref (α 0)), (2, .ref mb), (3, .ref ao), (4, .int (nI i))]) dL_law_1460 (by decide) rfl ?_
  refine r_aload_n C 3 dL_law_1462 rfl rfl ?_
  refine r_aload_n C 1 dL_law_1463 rfl rfl ?_
  refine r_iload C 5 dL_law_1464 rfl ?_
  refine r_iconst C (v := nI 1) dL_law_1466 (by decide) ?_
  refine r_iaddN C dL_law_1467 ?_
  refine r_sld C hX hbl hbA hL (i := i + 1) (by omega) dL_law_1468 ?_
  refine r_aload_n C 1 dL_law_1469 rfl rfl ?_
  refine r_iload C 5 dL_law_1470 rfl ?_
  refine r_iconst C (v := nI 2) dL_law_1472 (by decide) ?_
  refine r_iaddN C dL_law_1473 ?_
  refine r_sld C hX hbl hbA hL (i := i + 2) (by omega) dL_law_1474 ?_
  refine r_aload_n C 1 dL_law_1475 rfl rfl ?_
  refine r_iload C 5 dL_law_1476 rfl ?_
  refine r_iconst C (v := nI 3) dL_law_1478 (by decide) ?_
  refine r_iaddN C dL_law_1479 ?_
  refine r_sld C hX hbl hbA hL (i := i + 3) (by omega) dL_law_1480 ?_
  refine r_callV C hgX (ci := 14) ml_L_195 im_X12_pension se_X12_pension rfl rfl hmd.1.1 (c_X12_pension l hfl G M1 mb τ hmd.1 hmd.2.1 hw hmd.2.2.1 hmd.2.2.2 (xs (i + 1)) (xs (i + 2)) (xs (i + 3))) rfl (Nat.le_of_ble_eq_true rfl) (rm_hR (Nat.le_of_ble_eq_true rfl) (Nat.le_of_ble_eq_true rfl)) (rm_hf (by omega) (by omega)) dL_law_1481 rfl ?_
  intro v2 M2 hpp0
  have hpp := PP.ex hcc hpp0
  clear hpp0
  obtain ⟨be, hj2, hlk⟩ := hj.step2 (n := n9 + 1) (fun h_ => lk_pension hw hk hn9 (hcc.symm.trans h_)) hk.up hlp hpp
  have hx2 : v2 = none := hpp.2.2.2.2.2
  subst hx2
  refine V.eSt (st' := []) rfl ?_
  refine r_aload_n C 3 dL_law_1484 rfl rfl ?_
  refine r_callV C hgX (ci := 14) ml_L_138 im_X12_thrown se_X12_thrown rfl rfl hj2.2.2.2.1.1.1 (c_X12_thrown l hfl G M2 mb hj2.2.2.2.1.1) rfl (Nat.le_of_ble_eq_true rfl) (rm_hR (Nat.le_of_ble_eq_true rfl) (Nat.le_of_ble_eq_true rfl)) (rm_hf (by omega) (by omega)) dL_law_1485 rfl ?_
  intro v3 M3 h3
  obtain ⟨hv3, hM3⟩ := h3
  subst hv3
  subst hM3
  refine V.eSt (st' := [.int (nI cc)]) (congrArg (fun z_ => [Value.int z_]) hpp.1) ?_
  refine r_iload C 0 dL_law_1488 rfl ?_
  refine r_icmp_eqN C (t := 1495) (by omega) (by omega) dL_law_1490 (by decide) (fun c1490 => ?_) (fun c1490 => ?_)
  · skip
    refine r_goto C (t := 2691) dL_law_1495 (by decide) ?_
    refine V.sub [1, 2, 3, 4, 5] (lo' := [(0, .ref b), (1, .ref (α 0)), (2, .ref mb), (3, .ref ao), (4, .int (nI i))]) rfl ?_
    refine V.widen (k := cells + 20) (n := slots + 4000) (by omega) (by omega) ?_
    exact kk _ be M2 hj2 hlk
  · exact absurd rfl c1490
set_option maxHeartbeats 1000000 in
set_option maxRecDepth 100000 in
theorem lc_yearTax (l : Launch) (hfl : l.flags = flags0) {p : Program} {e : Env} {s : State} {m : MethodId} {args : Array Value} {below : List Frame} {meth : Method} {c : Code} {G : gW} (C : Cx p l s m args meth c G RL cL_law 8) (hgX : gX G s s.heap) {b L : Nat} {xs : Nat → Int32} (hX : va_X b L xs s s.heap) (hbl : b < s.heap.size) (hbA : ¬ gA G b) (hL : L ≤ 4096) {i : Nat} (hi : i + 8 ≤ L) {τ : Mu} {α : Nat → Nat} {M : Mem} {q mb ao n9 : Nat} (hj : LJ τ G α M q mb ao) (hk : LK n9 τ) (hn9 : n9 ≤ 600) {cells slots : Nat} (hcs : cells ≤ 500000) (hss : slots ≤ 7000000) {Q : State → Prop} (kk : ∀ U be M2, LJ U G be M2 q mb ao → LK (n9 + 1) U → V p l e room_1 s m args below meth c G Q 8 M2 (cells + 20) (slots + 4000) 2691 [(0, .ref b), (1, .ref q), (2, .ref mb), (3, .ref ao), (4, .int (nI i))] []) : V p l e room_1 s m args below meth c G Q 8 M cells slots 1498 [(0, .ref b), (1, .ref q), (2, .ref mb), (3, .ref ao), (4, .int (nI i))] [] := by
  have hj0 := hj
  obtain ⟨hw, ⟨hws, hwt, hwb⟩, ha0, hmt, ⟨hao, hao1⟩, han, hmn, hom⟩ := hj0
  subst ha0
  refine r_aload_n C 1 dL_law_1498 rfl rfl ?_
  refine r_aload_n C 0 dL_law_1499 rfl rfl ?_
  refine r_iload C 4 dL_law_1500 rfl ?_
  refine r_iconst C (v := nI 1) dL_law_1502 (by decide) ?_
  refine r_iaddN C dL_law_1503 ?_
  refine r_sld C hX hbl hbA hL (i := i + 1) (by omega) dL_law_1504 ?_
  refine r_aload_n C 0 dL_law_1505 rfl rfl ?_
  refine r_iload C 4 dL_law_1506 rfl ?_
  refine r_iconst C (v := nI 2) dL_law_1508 (by decide) ?_
  refine r_iaddN C dL_law_1509 ?_
  refine r_sld C hX hbl hbA hL (i := i + 2) (by omega) dL_law_1510 ?_
  refine r_aload_n C 0 dL_law_1511 rfl rfl ?_
  refine r_iload C 4 dL_law_1512 rfl ?_
  refine r_iconst C (v := nI 3) dL_law_1514 (by decide) ?_
  refine r_iaddN C dL_law_1515 ?_
  refine r_sld C hX hbl hbA hL (i := i + 3) (by omega) dL_law_1516 ?_
  refine r_aload_n C 0 dL_law_1517 rfl rfl ?_
  refine r_iload C 4 dL_law_1518 rfl ?_
  refine r_iconst C (v := nI 4) dL_law_1520 (by decide) ?_
  refine r_iaddN C dL_law_1521 ?_
  refine r_sld C hX hbl hbA hL (i := i + 4) (by omega) dL_law_1522 ?_
  refine r_i2l C dL_law_1523 ?_
  refine r_bipush C (v := nI 32) dL_law_1524 (by decide) ?_
  refine r_lshl C dL_law_1526 rfl ?_
  refine r_aload_n C 0 dL_law_1527 rfl rfl ?_
  refine r_iload C 4 dL_law_1528 rfl ?_
  refine r_iconst C (v := nI 5) dL_law_1530 (by decide) ?_
  refine r_iaddN C dL_law_1531 ?_
  refine r_sld C hX hbl hbA hL (i := i + 5) (by omega) dL_law_1532 ?_
  refine r_i2l C dL_law_1533 ?_
  refine r_ldc2 C (v := 4294967295) kl_L_196 dL_law_1534 ?_
  refine V.el (y := lN 4294967295) (by decide) ?_
  refine r_land C dL_law_1537 ?_
  refine r_lor C dL_law_1538 ?_
  refine r_aload_n C 3 dL_law_1539 rfl rfl ?_
  refine r_callH C hgX hl_yearTax (c_L_yearTax l hfl G M τ hw α hws hwt hwb (hk.ad hn9) (xs (i + 1)) (xs (i + 2)) (xs (i + 3)) ((((xs (i + 4)).toInt64) <<< ((nI 32).toInt64 &&& 63)) ||| (((xs (i + 5)).toInt64) &&& (lN 4294967295))) ao hao hao1 han (fun _ => hw)) rfl (Nat.le_of_ble_eq_true rfl) (rm_hR (Nat.le_of_ble_eq_true rfl) (Nat.le_of_ble_eq_true rfl)) (rm_hf (by omega) (by omega)) dL_law_1540 rfl ?_
  intro v1 M1 hlp0
  obtain ⟨cc, hcc, hlp, hv1⟩ := LPo.ex hlp0
  subst hv1
  clear hlp0
  have hc3 : cc ≤ 3 := by rw [hcc]; exact cd2_le _ _
  have hmd := hj.mid hlp
  refine V.eSt (st' := [.int (nI cc)]) rfl ?_
  refine r_istore C (lo' := [(5, .int (nI cc)), (0, .ref b), (1, .ref (α 0)), (2, .ref mb), (3, .ref ao), (4, .int (nI i))]) dL_law_1543 (by decide) rfl ?_
  refine r_aload_n C 3 dL_law_1545 rfl rfl ?_
  refine r_aload_n C 1 dL_law_1546 rfl rfl ?_
  refine r_iload C 5 dL_law_1547 rfl ?_
  refine r_iconst C (v := nI 1) dL_law_1549 (by decide) ?_
  refine r_iaddN C dL_law_1550 ?_
  refine r_sld C hX hbl hbA hL (i := i + 1) (by omega) dL_law_1551 ?_
  refine r_aload_n C 1 dL_law_1552 rfl rfl ?_
  refine r_iload C 5 dL_law_1553 rfl ?_
  refine r_iconst C (v := nI 2) dL_law_1555 (by decide) ?_
  refine r_iaddN C dL_law_1556 ?_
  refine r_sld C hX hbl hbA hL (i := i + 2) (by omega) dL_law_1557 ?_
  refine r_aload_n C 1 dL_law_1558 rfl rfl ?_
  refine r_iload C 5 dL_law_1559 rfl ?_
  refine r_iconst C (v := nI 3) dL_law_1561 (by decide) ?_
  refine r_iaddN C dL_law_1562 ?_
  refine r_sld C hX hbl hbA hL (i := i + 3) (by omega) dL_law_1563 ?_
  refine r_aload_n C 1 dL_law_1564 rfl rfl ?_
  refine r_iload C 5 dL_law_1565 rfl ?_
  refine r_iconst C (v := nI 4) dL_law_1567 (by decide) ?_
  refine r_iaddN C dL_law_1568 ?_
  refine r_sld C hX hbl hbA hL (i := i + 4) (by omega) dL_law_1569 ?_
  refine r_i2l C dL_law_1570 ?_
  refine r_bipush C (v := nI 32) dL_law_1571 (by decide) ?_
  refine r_lshl C dL_law_1573 rfl ?_
  refine r_aload_n C 1 dL_law_1574 rfl rfl ?_
  refine r_iload C 5 dL_law_1575 rfl ?_
  refine r_iconst C (v := nI 5) dL_law_1577 (by decide) ?_
  refine r_iaddN C dL_law_1578 ?_
  refine r_sld C hX hbl hbA hL (i := i + 5) (by omega) dL_law_1579 ?_
  refine r_i2l C dL_law_1580 ?_
  refine r_ldc2 C (v := 4294967295) kl_L_196 dL_law_1581 ?_
  refine V.el (y := lN 4294967295) (by decide) ?_
  refine r_land C dL_law_1584 ?_
  refine r_lor C dL_law_1585 ?_
  refine r_callV C hgX (ci := 14) ml_L_201 im_X12_yearTax se_X12_yearTax rfl rfl hmd.1.1 (c_X12_yearTax l hfl G M1 mb τ hmd.1 hmd.2.1 hw hmd.2.2.1 hmd.2.2.2 (xs (i + 1)) (xs (i + 2)) (xs (i + 3)) ((((xs (i + 4)).toInt64) <<< ((nI 32).toInt64 &&& 63)) ||| (((xs (i + 5)).toInt64) &&& (lN 4294967295)))) rfl (Nat.le_of_ble_eq_true rfl) (rm_hR (Nat.le_of_ble_eq_true rfl) (Nat.le_of_ble_eq_true rfl)) (rm_hf (by omega) (by omega)) dL_law_1586 rfl ?_
  intro v2 M2 hpp0
  have hpp := PP.ex hcc hpp0
  clear hpp0
  obtain ⟨be, hj2, hlk⟩ := hj.step2 (n := n9 + 1) (fun _ => ⟨hw, hk.up⟩) hk.up hlp hpp
  obtain ⟨x2, hx2⟩ := hpp.2.2.2.2.2
  subst hx2
  refine V.eSt (st' := [.long x2]) rfl ?_
  refine r_lstore C (lo' := [(6, .long x2), (5, .int (nI cc)), (0, .ref b), (1, .ref (α 0)), (2, .ref mb), (3, .ref ao), (4, .int (nI i))]) dL_law_1589 (by decide) rfl ?_
  refine r_aload_n C 4 dL_law_1591 rfl rfl ?_
  refine r_callV C hgX (ci := 14) ml_L_138 im_X12_thrown se_X12_thrown rfl rfl hj2.2.2.2.1.1.1 (c_X12_thrown l hfl G M2 mb hj2.2.2.2.1.1) rfl (Nat.le_of_ble_eq_true rfl) (rm_hR (Nat.le_of_ble_eq_true rfl) (Nat.le_of_ble_eq_true rfl)) (rm_hf (by omega) (by omega)) dL_law_1592 rfl ?_
  intro v3 M3 h3
  obtain ⟨hv3, hM3⟩ := h3
  subst hv3
  subst hM3
  refine V.eSt (st' := [.int (nI cc)]) (congrArg (fun z_ => [Value.int z_]) hpp.1) ?_
  refine r_iload C 1 dL_law_1595 rfl ?_
  refine r_icmp_eqN C (t := 1602) (by omega) (by omega) dL_law_1597 (by decide) (fun c1597 => ?_) (fun c1597 => ?_)
  · skip
    refine r_iload C 1 dL_law_1602 rfl ?_
    refine r_if_neN C (t := 1618) (by omega) dL_law_1604 (by decide) (fun c1604 => ?_) (fun c1604 => ?_)
    · skip
      refine r_goto C (t := 2691) dL_law_1618 (by decide) ?_
      refine V.sub [2, 3, 4, 5, 6] (lo' := [(0, .ref b), (1, .ref (α 0)), (2, .ref mb), (3, .ref ao), (4, .int (nI i))]) rfl ?_
      refine V.widen (k := cells + 20) (n := slots + 4000) (by omega) (by omega) ?_
      exact kk _ be M2 hj2 hlk
    · skip
      refine r_aload_n C 5 dL_law_1607 rfl rfl ?_
      refine r_iconst C (v := nI 0) dL_law_1608 (by decide) ?_
      refine r_laloadN C hj2.2.2.2.2.1.1 hj2.2.2.2.2.1.2 (by omega) (by omega) dL_law_1609 ?_
      refine r_lload C 0 dL_law_1610 rfl ?_
      have hA := hj.out hlp hpp c1604
      have hB := so_l (hpp.2.2.2.2.1 c1604).1
      refine r_lcmp_eq C (t := 1618) dL_law_1612 dL_law_1613 (by decide) (fun c1613 => ?_) (fun c1613 => ?_)
      · skip
        refine r_goto C (t := 2691) dL_law_1618 (by decide) ?_
        refine V.sub [2, 3, 4, 5, 6] (lo' := [(0, .ref b), (1, .ref (α 0)), (2, .ref mb), (3, .ref ao), (4, .int (nI i))]) rfl ?_
        refine V.widen (k := cells + 20) (n := slots + 4000) (by omega) (by omega) ?_
        exact kk _ be M2 hj2 hlk
      · exact absurd (by rw [hA, hB]) c1613
  · exact absurd rfl c1597
