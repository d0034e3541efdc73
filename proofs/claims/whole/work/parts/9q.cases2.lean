/-! THE LAW: its cases, 18 to 25 -/
set_option maxHeartbeats 1000000 in
set_option maxRecDepth 100000 in
theorem lc_slip (l : Launch) (hfl : l.flags = flags0) {p : Program} {e : Env} {s : State} {m : MethodId} {args : Array Value} {below : List Frame} {meth : Method} {c : Code} {G : gW} (C : Cx p l s m args meth c G RL cL_law 8) (hgX : gX G s s.heap) {b L : Nat} {xs : Nat → Int32} (hX : va_X b L xs s s.heap) (hbl : b < s.heap.size) (hbA : ¬ gA G b) (hL : L ≤ 4096) {i : Nat} (hi : i + 8 ≤ L) {τ : Mu} {α : Nat → Nat} {M : Mem} {q mb ao n9 : Nat} (hj : LJ τ G α M q mb ao) (hk : LK n9 τ) (hn9 : n9 ≤ 600) {cells slots : Nat} (hcs : cells ≤ 500000) (hss : slots ≤ 7000000) {Q : State → Prop} (kk : ∀ U be M2, LJ U G be M2 q mb ao → LK (n9 + 1) U → V p l e room_1 s m args below meth c G Q 8 M2 (cells + 20) (slots + 4000) 2691 [(0, .ref b), (1, .ref q), (2, .ref mb), (3, .ref ao), (4, .int (nI i))] []) : V p l e room_1 s m args below meth c G Q 8 M cells slots 1621 [(0, .ref b), (1, .ref q), (2, .ref mb), (3, .ref ao), (4, .int (nI i))] [] := by
  have hj0 := hj
  obtain ⟨hw, ⟨hws, hwt, hwb⟩, ha0, hmt, ⟨hao, hao1⟩, han, hmn, hom⟩ := hj0
  subst ha0
  refine r_aload_n C 1 dL_law_1621 rfl rfl ?_
  refine r_aload_n C 0 dL_law_1622 rfl rfl ?_
  refine r_iload C 4 dL_law_1623 rfl ?_
  refine r_iconst C (v := nI 1) dL_law_1625 (by decide) ?_
  refine r_iaddN C dL_law_1626 ?_
  refine r_sld C hX hbl hbA hL (i := i + 1) (by omega) dL_law_1627 ?_
  refine r_aload_n C 0 dL_law_1628 rfl rfl ?_
  refine r_iload C 4 dL_law_1629 rfl ?_
  refine r_iconst C (v := nI 2) dL_law_1631 (by decide) ?_
  refine r_iaddN C dL_law_1632 ?_
  refine r_sld C hX hbl hbA hL (i := i + 2) (by omega) dL_law_1633 ?_
  refine r_aload_n C 0 dL_law_1634 rfl rfl ?_
  refine r_iload C 4 dL_law_1635 rfl ?_
  refine r_iconst C (v := nI 3) dL_law_1637 (by decide) ?_
  refine r_iaddN C dL_law_1638 ?_
  refine r_sld C hX hbl hbA hL (i := i + 3) (by omega) dL_law_1639 ?_
  refine r_aload_n C 3 dL_law_1640 rfl rfl ?_
  refine r_callH C hgX hl_slip (c_L_slip l hfl G M τ hw α hws hwt hwb (hk.ad hn9) (xs (i + 1)) (xs (i + 2)) (xs (i + 3)) ao hao hao1 han (fun _ => hw)) rfl (Nat.le_of_ble_eq_true rfl) (rm_hR (Nat.le_of_ble_eq_true rfl) (Nat.le_of_ble_eq_true rfl)) (rm_hf (by omega) (by omega)) dL_law_1641 rfl ?_
  intro v1 M1 hlp0
  obtain ⟨cc, hcc, hlp, hv1⟩ := LPo.ex hlp0
  subst hv1
  clear hlp0
  have hc3 : cc ≤ 3 := by rw [hcc]; exact cd2_le _ _
  have hmd := hj.mid hlp
  refine V.eSt (st' := [.int (nI cc)]) rfl ?_
  refine r_istore C (lo' := [(5, .int (nI cc)), (0, .ref b), (1, .ref (α 0)), (2, .ref mb), (3, .ref ao), (4, .int (nI i))]) dL_law_1644 (by decide) rfl ?_
  refine r_aload_n C 3 dL_law_1646 rfl rfl ?_
  refine r_aload_n C 1 dL_law_1647 rfl rfl ?_
  refine r_iload C 5 dL_law_1648 rfl ?_
  refine r_iconst C (v := nI 1) dL_law_1650 (by decide) ?_
  refine r_iaddN C dL_law_1651 ?_
  refine r_sld C hX hbl hbA hL (i := i + 1) (by omega) dL_law_1652 ?_
  refine r_aload_n C 1 dL_law_1653 rfl rfl ?_
  refine r_iload C 5 dL_law_1654 rfl ?_
  refine r_iconst C (v := nI 2) dL_law_1656 (by decide) ?_
  refine r_iaddN C dL_law_1657 ?_
  refine r_sld C hX hbl hbA hL (i := i + 2) (by omega) dL_law_1658 ?_
  refine r_aload_n C 1 dL_law_1659 rfl rfl ?_
  refine r_iload C 5 dL_law_1660 rfl ?_
  refine r_iconst C (v := nI 3) dL_law_1662 (by decide) ?_
  refine r_iaddN C dL_law_1663 ?_
  refine r_sld C hX hbl hbA hL (i := i + 3) (by omega) dL_law_1664 ?_
  refine r_callV C hgX (ci := 14) ml_L_204 im_X12_slip se_X12_slip rfl rfl hmd.1.1 (c_X12_slip l hfl G M1 mb τ hmd.1 hmd.2.1 hw hmd.2.2.1 hmd.2.2.2 (xs (i + 1)) (xs (i + 2)) (xs (i + 3))) rfl (Nat.le_of_ble_eq_true rfl) (rm_hR (Nat.le_of_ble_eq_true rfl) (Nat.le_of_ble_eq_true rfl)) (rm_hf (by omega) (by omega)) dL_law_1665 rfl ?_
  intro v2 M2 hpp0
  have hpp := PP.ex hcc hpp0
  clear hpp0
  obtain ⟨be, hj2, hlk⟩ := hj.step2 (n := n9 + 1) (fun _ => ⟨hw, hk.up⟩) hk.up hlp hpp
  obtain ⟨x2, hx2⟩ := hpp.2.2.2.2.2
  subst hx2
  refine V.eSt (st' := [.long x2]) rfl ?_
  refine r_lstore C (lo' := [(6, .long x2), (5, .int (nI cc)), (0, .ref b), (1, .ref (α 0)), (2, .ref mb), (3, .ref ao), (4, .int (nI i))]) dL_law_1668 (by decide) rfl ?_
  refine r_aload_n C 4 dL_law_1670 rfl rfl ?_
  refine r_callV C hgX (ci := 14) ml_L_138 im_X12_thrown se_X12_thrown rfl rfl hj2.2.2.2.1.1.1 (c_X12_thrown l hfl G M2 mb hj2.2.2.2.1.1) rfl (Nat.le_of_ble_eq_true rfl) (rm_hR (Nat.le_of_ble_eq_true rfl) (Nat.le_of_ble_eq_true rfl)) (rm_hf (by omega) (by omega)) dL_law_1671 rfl ?_
  intro v3 M3 h3
  obtain ⟨hv3, hM3⟩ := h3
  subst hv3
  subst hM3
  refine V.eSt (st' := [.int (nI cc)]) (congrArg (fun z_ => [Value.int z_]) hpp.1) ?_
  refine r_iload C 1 dL_law_1674 rfl ?_
  refine r_icmp_eqN C (t := 1681) (by omega) (by omega) dL_law_1676 (by decide) (fun c1676 => ?_) (fun c1676 => ?_)
  · skip
    refine r_iload C 1 dL_law_1681 rfl ?_
    refine r_if_neN C (t := 1697) (by omega) dL_law_1683 (by decide) (fun c1683 => ?_) (fun c1683 => ?_)
    · skip
      refine r_goto C (t := 2691) dL_law_1697 (by decide) ?_
      refine V.sub [2, 3, 4, 5, 6] (lo' := [(0, .ref b), (1, .ref (α 0)), (2, .ref mb), (3, .ref ao), (4, .int (nI i))]) rfl ?_
      refine V.widen (k := cells + 20) (n := slots + 4000) (by omega) (by omega) ?_
      exact kk _ be M2 hj2 hlk
    · skip
      refine r_aload_n C 5 dL_law_1686 rfl rfl ?_
      refine r_iconst C (v := nI 0) dL_law_1687 (by decide) ?_
      refine r_laloadN C hj2.2.2.2.2.1.1 hj2.2.2.2.2.1.2 (by omega) (by omega) dL_law_1688 ?_
      refine r_lload C 0 dL_law_1689 rfl ?_
      have hA := hj.out hlp hpp c1683
      have hB := so_l (hpp.2.2.2.2.1 c1683).1
      refine r_lcmp_eq C (t := 1697) dL_law_1691 dL_law_1692 (by decide) (fun c1692 => ?_) (fun c1692 => ?_)
      · skip
        refine r_goto C (t := 2691) dL_law_1697 (by decide) ?_
        refine V.sub [2, 3, 4, 5, 6] (lo' := [(0, .ref b), (1, .ref (α 0)), (2, .ref mb), (3, .ref ao), (4, .int (nI i))]) rfl ?_
        refine V.widen (k := cells + 20) (n := slots + 4000) (by omega) (by omega) ?_
        exact kk _ be M2 hj2 hlk
      · exact absurd (by rw [hA, hB]) c1692
  · exact absurd rfl c1676
set_option maxHeartbeats 1000000 in
set_option maxRecDepth 100000 in
theorem lc_slipIn (l : Launch) (hfl : l.flags = flags0) {p : Program} {e : Env} {s : State} {m : MethodId} {args : Array Value} {below : List Frame} {meth : Method} {c : Code} {G : gW} (C : Cx p l s m args meth c G RL cL_law 8) (hgX : gX G s s.heap) {b L : Nat} {xs : Nat → Int32} (hX : va_X b L xs s s.heap) (hbl : b < s.heap.size) (hbA : ¬ gA G b) (hL : L ≤ 4096) {i : Nat} (hi : i + 8 ≤ L) {τ : Mu} {α : Nat → Nat} {M : Mem} {q mb ao n9 : Nat} (hj : LJ τ G α M q mb ao) (hk : LK n9 τ) (hn9 : n9 ≤ 600) {cells slots : Nat} (hcs : cells ≤ 500000) (hss : slots ≤ 7000000) {Q : State → Prop} (kk : ∀ U be M2, LJ U G be M2 q mb ao → LK (n9 + 1) U → V p l e room_1 s m args below meth c G Q 8 M2 (cells + 20) (slots + 4000) 2691 [(0, .ref b), (1, .ref q), (2, .ref mb), (3, .ref ao), (4, .int (nI i))] []) : V p l e room_1 s m args below meth c G Q 8 M cells slots 1700 [(0, .ref b), (1, .ref q), (2, .ref mb), (3, .ref ao), (4, .int (nI i))] [] := by
  have hj0 := hj
  obtain ⟨hw, ⟨hws, hwt, hwb⟩, ha0, hmt, ⟨hao, hao1⟩, han, hmn, hom⟩ := hj0
  subst ha0
  refine r_aload_n C 1 dL_law_1700 rfl rfl ?_
  refine r_aload_n C 0 dL_law_1701 rfl rfl ?_
  refine r_iload C 4 dL_law_1702 rfl ?_
  refine r_iconst C (v := nI 1) dL_law_1704 (by decide) ?_
  refine r_iaddN C dL_law_1705 ?_
  refine r_sld C hX hbl hbA hL (i := i + 1) (by omega) dL_law_1706 ?_
  refine r_aload_n C 0 dL_law_1707 rfl rfl ?_
  refine r_iload C 4 dL_law_1708 rfl ?_
  refine r_iconst C (v := nI 2) dL_law_1710 (by decide) ?_
  refine r_iaddN C dL_law_1711 ?_
  refine r_sld C hX hbl hbA hL (i := i + 2) (by omega) dL_law_1712 ?_
  refine r_aload_n C 0 dL_law_1713 rfl rfl ?_
  refine r_iload C 4 dL_law_1714 rfl ?_
  refine r_iconst C (v := nI 3) dL_law_1716 (by decide) ?_
  refine r_iaddN C dL_law_1717 ?_
  refine r_sld C hX hbl hbA hL (i := i + 3) (by omega) dL_law_1718 ?_
  refine r_aload_n C 0 dL_law_1719 rfl rfl ?_
  refine r_iload C 4 dL_law_1720 rfl ?_
  refine r_iconst C (v := nI 4) dL_law_1722 (by decide) ?_
  refine r_iaddN C dL_law_1723 ?_
  refine r_sld C hX hbl hbA hL (i := i + 4) (by omega) dL_law_1724 ?_
  refine r_aload_n C 3 dL_law_1725 rfl rfl ?_
  refine r_callH C hgX hl_slipIn (c_L_slipIn l hfl G M τ hw α hws hwt hwb (hk.ad hn9) (xs (i + 1)) (xs (i + 2)) (xs (i + 3)) (xs (i + 4)) ao hao hao1 han (fun _ => hw)) rfl (Nat.le_of_ble_eq_true rfl) (rm_hR (Nat.le_of_ble_eq_true rfl) (Nat.le_of_ble_eq_true rfl)) (rm_hf (by omega) (by omega)) dL_law_1726 rfl ?_
  intro v1 M1 hlp0
  obtain ⟨cc, hcc, hlp, hv1⟩ := LPo.ex hlp0
  subst hv1
  clear hlp0
  have hc3 : cc ≤ 3 := by rw [hcc]; exact cd2_le _ _
  have hmd := hj.mid hlp
  refine V.eSt (st' := [.int (nI cc)]) rfl ?_
  refine r_istore C (lo' := [(5, .int (nI cc)), (0, .ref b), (1, .ref (α 0)), (2, .ref mb), (3, .ref ao), (4, .int (nI i))]) dL_law_1729 (by decide) rfl ?_
  refine r_aload_n C 3 dL_law_1731 rfl rfl ?_
  refine r_aload_n C 1 dL_law_1732 rfl rfl ?_
  refine r_iload C 5 dL_law_1733 rfl ?_
  refine r_iconst C (v := nI 1) dL_law_1735 (by decide) ?_
  refine r_iaddN C dL_law_1736 ?_
  refine r_sld C hX hbl hbA hL (i := i + 1) (by omega) dL_law_1737 ?_
  refine r_aload_n C 1 dL_law_1738 rfl rfl ?_
  refine r_iload C 5 dL_law_1739 rfl ?_
  refine r_iconst C (v := nI 2) dL_law_1741 (by decide) ?_
  refine r_iaddN C dL_law_1742 ?_
  refine r_sld C hX hbl hbA hL (i := i + 2) (by omega) dL_law_1743 ?_
  refine r_aload_n C 1 dL_law_1744 rfl rfl ?_
  refine r_iload C 5 dL_law_1745 rfl ?_
  refine r_iconst C (v := nI 3) dL_law_1747 (by decide) ?_
  refine r_iaddN C dL_law_1748 ?_
  refine r_sld C hX hbl hbA hL (i := i + 3) (by omega) dL_law_1749 ?_
  refine r_aload_n C 1 dL_law_1750 rfl rfl ?_
  refine r_iload C 5 dL_law_1751 rfl ?_
  refine r_iconst C (v := nI 4) dL_law_1753 (by decide) ?_
  refine r_iaddN C dL_law_1754 ?_
  refine r_sld C hX hbl hbA hL (i := i + 4) (by omega) dL_law_1755 ?_
  refine r_callV C hgX (ci := 14) ml_L_207 im_X12_slipIn se_X12_slipIn rfl rfl hmd.1.1 (c_X12_slipIn l hfl G M1 mb τ hmd.1 hmd.2.1 hw hmd.2.2.1 hmd.2.2.2 (xs (i + 1)) (xs (i + 2)) (xs (i + 3)) (xs (i + 4))) rfl (Nat.le_of_ble_eq_true rfl) (rm_hR (Nat.le_of_ble_eq_true rfl) (Nat.le_of_ble_eq_true rfl)) (rm_hf (by omega) (by omega)) dL_law_1756 rfl ?_
  intro v2 M2 hpp0
  have hpp := PP.ex hcc hpp0
  clear hpp0
  obtain ⟨be, hj2, hlk⟩ := hj.step2 (n := n9 + 1) (fun _ => ⟨hw, hk.up⟩) hk.up hlp hpp
  obtain ⟨x2, hx2⟩ := hpp.2.2.2.2.2
  subst hx2
  refine V.eSt (st' := [.long x2]) rfl ?_
  refine r_lstore C (lo' := [(6, .long x2), (5, .int (nI cc)), (0, .ref b), (1, .ref (α 0)), (2, .ref mb), (3, .ref ao), (4, .int (nI i))]) dL_law_1759 (by decide) rfl ?_
  refine r_aload_n C 4 dL_law_1761 rfl rfl ?_
  refine r_callV C hgX (ci := 14) ml_L_138 im_X12_thrown se_X12_thrown rfl rfl hj2.2.2.2.1.1.1 (c_X12_thrown l hfl G M2 mb hj2.2.2.2.1.1) rfl (Nat.le_of_ble_eq_true rfl) (rm_hR (Nat.le_of_ble_eq_true rfl) (Nat.le_of_ble_eq_true rfl)) (rm_hf (by omega) (by omega)) dL_law_1762 rfl ?_
  intro v3 M3 h3
  obtain ⟨hv3, hM3⟩ := h3
  subst hv3
  subst hM3
  refine V.eSt (st' := [.int (nI cc)]) (congrArg (fun z_ => [Value.int z_]) hpp.1) ?_
  refine r_iload C 1 dL_law_1765 rfl ?_
  refine r_icmp_eqN C (t := 1772) (by omega) (by omega) dL_law_1767 (by decide) (fun c1767 => ?_) (fun c1767 => ?_)
  · skip
    refine r_iload C 1 dL_law_1772 rfl ?_
    refine r_if_neN C (t := 1788) (by omega) dL_law_1774 (by decide) (fun c1774 => ?_) (fun c1774 => ?_)
    · skip
      refine r_goto C (t := 2691) dL_law_1788 (by decide) ?_
      refine V.sub [2, 3, 4, 5, 6] (lo' := [(0, .ref b), (1, .ref (α 0)), (2, .ref mb), (3, .ref ao), (4, .int (nI i))]) rfl ?_
      refine V.widen (k := cells + 20) (n := slots + 4000) (by omega) (by omega) ?_
      exact kk _ be M2 hj2 hlk
    · skip
      refine r_aload_n C 5 dL_law_1777 rfl rfl ?_
      refine r_iconst C (v := nI 0) dL_law_1778 (by decide) ?_
      refine r_laloadN C hj2.2.2.2.2.1.1 hj2.2.2.2.2.1.2 (by omega) (by omega) dL_law_1779 ?_
      refine r_lload C 0 dL_law_1780 rfl ?_
      have hA := hj.out hlp hpp c1774
      have hB := so_l (hpp.2.2.2.2.1 c1774).1
      refine r_lcmp_eq C (t := 1788) dL_law_1782 dL_law_1783 (by decide) (fun c1783 => ?_) (fun c1783 => ?_)
      · skip
        refine r_goto C (t := 2691) dL_law_1788 (by decide) ?_
        refine V.sub [2, 3, 4, 5, 6] (lo' := [(0, .ref b), (1, .ref (α 0)), (2, .ref mb), (3, .ref ao), (4, .int (nI i))]) rfl ?_
        refine V.widen (k := cells + 20) (n := slots + 4000) (by omega) (by omega) ?_
        exact kk _ be M2 hj2 hlk
      · exact absurd (by rw [hA, hB]) c1783
  · exact absurd rfl c1767
set_option maxHeartbeats 1000000 in
set_option maxRecDepth 100000 in
theorem lc_elementOf (l : Launch) (hfl : l.flags = flags0) {p : Program} {e : Env} {s : State} {m : MethodId} {args : Array Value} {below : List Frame} {meth : Method} {c : Code} {G : gW} (C : Cx p l s m args meth c G RL cL_law 8) (hgX : gX G s s.heap) {b L : Nat} {xs : Nat → Int32} (hX : va_X b L xs s s.heap) (hbl : b < s.heap.size) (hbA : ¬ gA G b) (hL : L ≤ 4096) {i : Nat} (hi : i + 8 ≤ L) {τ : Mu} {α : Nat → Nat} {M : Mem} {q mb ao n9 : Nat} (hj : LJ τ G α M q mb ao) (hk : LK n9 τ) (hn9 : n9 ≤ 600) {cells slots : Nat} (hcs : cells ≤ 500000) (hss : slots ≤ 7000000) {Q : State → Prop} (kk : ∀ U be M2, LJ U G be M2 q mb ao → LK (n9 + 1) U → V p l e room_1 s m args below meth c G Q 8 M2 (cells + 20) (slots + 4000) 2691 [(0, .ref b), (1, .ref q), (2, .ref mb), (3, .ref ao), (4, .int (nI i))] []) : V p l e room_1 s m args below meth c G Q 8 M cells slots 1791 [(0, .ref b), (1, .ref q), (2, .ref mb), (3, .ref ao), (4, .int (nI i))] [] := by
  have hj0 := hj
  obtain ⟨hw, ⟨hws, hwt, hwb⟩, ha0, hmt, ⟨hao, hao1⟩, han, hmn, hom⟩ := hj0
  subst ha0
  refine r_aload_n C 1 dL_law_1791 rfl rfl ?_
  refine r_aload_n C 0 dL_law_1792 rfl rfl ?_
  refine r_iload C 4 dL_law_1793 rfl ?_
  refine r_iconst C (v := nI 1) dL_law_1795 (by decide) ?_
  refine r_iaddN C dL_law_1796 ?_
  refine r_sld C hX hbl hbA hL (i := i + 1) (by omega) dL_law_1797 ?_
  refine r_aload_n C 0 dL_law_1798 rfl rfl ?_
  refine r_iload C 4 dL_law_1799 rfl ?_
  refine r_iconst C (v := nI 2) dL_law_1801 (by decide) ?_
  refine r_iaddN C dL_law_1802 ?_
  refine r_sld C hX hbl hbA hL (i := i + 2) (by omega) dL_law_1803 ?_
  refine r_aload_n C 0 dL_law_1804 rfl rfl ?_
  refine r_iload C 4 dL_law_1805 rfl ?_
  refine r_iconst C (v := nI 3) dL_law_1807 (by decide) ?_
  refine r_iaddN C dL_law_1808 ?_
  refine r_sld C hX hbl hbA hL (i := i + 3) (by omega) dL_law_1809 ?_
  refine r_aload_n C 3 dL_law_1810 rfl rfl ?_
  refine r_callH C hgX hl_elementOf (c_L_elementOf l hfl G M τ hw α hws hwt hwb (hk.ad hn9) (xs (i + 1)) (xs (i + 2)) (xs (i + 3)) ao hao hao1 han (fun _ => hw)) rfl (Nat.le_of_ble_eq_true rfl) (rm_hR (Nat.le_of_ble_eq_true rfl) (Nat.le_of_ble_eq_true rfl)) (rm_hf (by omega) (by omega)) dL_law_1811 rfl ?_
  intro v1 M1 hlp0
  obtain ⟨cc, hcc, hlp, hv1⟩ := LPo.ex hlp0
  subst hv1
  clear hlp0
  have hc3 : cc ≤ 3 := by rw [hcc]; exact cd1_le _
  have hmd := hj.mid hlp
  refine V.eSt (st' := [.int (nI cc)]) rfl ?_
  refine r_istore C (lo' := [(5, .int (nI cc)), (0, .ref b), (1, .ref (α 0)), (2, .ref mb), (3, .ref ao), (4, .int (nI i))]) dL_law_1814 (by decide) rfl ?_
  refine r_aload_n C 3 dL_law_1816 rfl rfl ?_
  refine r_aload_n C 1 dL_law_1817 rfl rfl ?_
  refine r_iload C 5 dL_law_1818 rfl ?_
  refine r_iconst C (v := nI 1) dL_law_1820 (by decide) ?_
  refine r_iaddN C dL_law_1821 ?_
  refine r_sld C hX hbl hbA hL (i := i + 1) (by omega) dL_law_1822 ?_
  refine r_aload_n C 1 dL_law_1823 rfl rfl ?_
  refine r_iload C 5 dL_law_1824 rfl ?_
  refine r_iconst C (v := nI 2) dL_law_1826 (by decide) ?_
  refine r_iaddN C dL_law_1827 ?_
  refine r_sld C hX hbl hbA hL (i := i + 2) (by omega) dL_law_1828 ?_
  refine r_aload_n C 1 dL_law_1829 rfl rfl ?_
  refine r_iload C 5 dL_law_1830 rfl ?_
  refine r_iconst C (v := nI 3) dL_law_1832 (by decide) ?_
  refine r_iaddN C dL_law_1833 ?_
  refine r_sld C hX hbl hbA hL (i := i + 3) (by omega) dL_law_1834 ?_
  refine r_callV C hgX (ci := 14) ml_L_210 im_X12_elementOf se_X12_elementOf rfl rfl hmd.1.1 (c_X12_elementOf l hfl G M1 mb τ hmd.1 hmd.2.1 hw hmd.2.2.1 hmd.2.2.2 (xs (i + 1)) (xs (i + 2)) (xs (i + 3))) rfl (Nat.le_of_ble_eq_true rfl) (rm_hR (Nat.le_of_ble_eq_true rfl) (Nat.le_of_ble_eq_true rfl)) (rm_hf (by omega) (by omega)) dL_law_1835 rfl ?_
  intro v2 M2 hpp0
  have hpp := PP.ex hcc hpp0
  clear hpp0
  obtain ⟨be, hj2, hlk⟩ := hj.step2 (n := n9 + 1) (fun _ => ⟨hw, hk.up⟩) hk.up hlp hpp
  obtain ⟨x2, hx2⟩ := hpp.2.2.2.2.2
  subst hx2
  refine V.eSt (st' := [.long x2]) rfl ?_
  refine r_lstore C (lo' := [(6, .long x2), (5, .int (nI cc)), (0, .ref b), (1, .ref (α 0)), (2, .ref mb), (3, .ref ao), (4, .int (nI i))]) dL_law_1838 (by decide) rfl ?_
  refine r_aload_n C 4 dL_law_1840 rfl rfl ?_
  refine r_callV C hgX (ci := 14) ml_L_138 im_X12_thrown se_X12_thrown rfl rfl hj2.2.2.2.1.1.1 (c_X12_thrown l hfl G M2 mb hj2.2.2.2.1.1) rfl (Nat.le_of_ble_eq_true rfl) (rm_hR (Nat.le_of_ble_eq_true rfl) (Nat.le_of_ble_eq_true rfl)) (rm_hf (by omega) (by omega)) dL_law_1841 rfl ?_
  intro v3 M3 h3
  obtain ⟨hv3, hM3⟩ := h3
  subst hv3
  subst hM3
  refine V.eSt (st' := [.int (nI cc)]) (congrArg (fun z_ => [Value.int z_]) hpp.1) ?_
  refine r_iload C 1 dL_law_1844 rfl ?_
  refine r_icmp_eqN C (t := 1851) (by omega) (by omega) dL_law_1846 (by decide) (fun c1846 => ?_) (fun c1846 => ?_)
  · skip
    refine r_iload C 1 dL_law_1851 rfl ?_
    refine r_if_neN C (t := 1867) (by omega) dL_law_1853 (by decide) (fun c1853 => ?_) (fun c1853 => ?_)
    · skip
      refine r_goto C (t := 2691) dL_law_1867 (by decide) ?_
      refine V.sub [2, 3, 4, 5, 6] (lo' := [(0, .ref b), (1, .ref (α 0)), (2, .ref mb), (3, .ref ao), (4, .int (nI i))]) rfl ?_
      refine V.widen (k := cells + 20) (n := slots + 4000) (by omega) (by omega) ?_
      exact kk _ be M2 hj2 hlk
    · skip
      refine r_aload_n C 5 dL_law_1856 rfl rfl ?_
      refine r_iconst C (v := nI 0) dL_law_1857 (by decide) ?_
      refine r_laloadN C hj2.2.2.2.2.1.1 hj2.2.2.2.2.1.2 (by omega) (by omega) dL_law_1858 ?_
      refine r_lload C 0 dL_law_1859 rfl ?_
      have hA := hj.out hlp hpp c1853
      have hB := so_l (hpp.2.2.2.2.1 c1853).1
      refine r_lcmp_eq C (t := 1867) dL_law_1861 dL_law_1862 (by decide) (fun c1862 => ?_) (fun c1862 => ?_)
      · skip
        refine r_goto C (t := 2691) dL_law_1867 (by decide) ?_
        refine V.sub [2, 3, 4, 5, 6] (lo' := [(0, .ref b), (1, .ref (α 0)), (2, .ref mb), (3, .ref ao), (4, .int (nI i))]) rfl ?_
        refine V.widen (k := cells + 20) (n := slots + 4000) (by omega) (by omega) ?_
        exact kk _ be M2 hj2 hlk
      · exact absurd (by rw [hA, hB]) c1862
  · exact absurd rfl c1846
set_option maxHeartbeats 1000000 in
set_option maxRecDepth 100000 in
theorem lc_pensionOf (l : Launch) (hfl : l.flags = flags0) {p : Program} {e : Env} {s : State} {m : MethodId} {args : Array Value} {below : List Frame} {meth : Method} {c : Code} {G : gW} (C : Cx p l s m args meth c G RL cL_law 8) (hgX : gX G s s.heap) {b L : Nat} {xs : Nat → Int32} (hX : va_X b L xs s s.heap) (hbl : b < s.heap.size) (hbA : ¬ gA G b) (hL : L ≤ 4096) {i : Nat} (hi : i + 8 ≤ L) {τ : Mu} {α : Nat → Nat} {M : Mem} {q mb ao n9 : Nat} (hj : LJ τ G α M q mb ao) (hk : LK n9 τ) (hn9 : n9 ≤ 600) {cells slots : Nat} (hcs : cells ≤ 500000) (hss : slots ≤ 7000000) {Q : State → Prop} (kk : ∀ U be M2, LJ U G be M2 q mb ao → LK (n9 + 1) U → V p l e room_1 s m args below meth c G Q 8 M2 (cells + 20) (slots + 4000) 2691 [(0, .ref b), (1, .ref q), (2, .ref mb), (3, .ref ao), (4, .int (nI i))] []) : V p l e room_1 s m args below meth c G Q 8 M cells slots 1870 [(0, .ref b), (1, .ref q), (2, .ref mb), (3, .ref ao), (4, .int (nI i))] [] := by
  have hj0 := hj
  obtain ⟨hw, ⟨hws, hwt, hwb⟩, ha0, hmt, ⟨hao, hao1⟩, han, hmn, hom⟩ := hj0
  subst ha0
  refine r_aload_n C 1 dL_law_1870 rfl rfl ?_
  refine r_aload_n C 0 dL_law_1871 rfl rfl ?_
  refine r_iload C 4 dL_law_1872 rfl ?_
  refine r_iconst C (v := nI 1) dL_law_1874 (by decide) ?_
  refine r_iaddN C dL_law_1875 ?_
  refine r_sld C hX hbl hbA hL (i := i + 1) (by omega) dL_law_1876 ?_
  refine r_aload_n C 0 dL_law_1877 rfl rfl ?_
  refine r_iload C 4 dL_law_1878 rfl ?_
  refine r_iconst C (v := nI 2) dL_law_1880 (by decide) ?_
  refine r_iaddN C dL_law_1881 ?_
  refine r_sld C hX hbl hbA hL (i := i + 2) (by omega) dL_law_1882 ?_
  refine r_aload_n C 3 dL_law_1883 rfl rfl ?_
  refine r_callH C hgX hl_pensionOf (c_L_pensionOf l hfl G M τ hw α hws hwt hwb (hk.ad hn9) (xs (i + 1)) (xs (i + 2)) ao hao hao1 han (fun _ => hw)) rfl (Nat.le_of_ble_eq_true rfl) (rm_hR (Nat.le_of_ble_eq_true rfl) (Nat.le_of_ble_eq_true rfl)) (rm_hf (by omega) (by omega)) dL_law_1884 rfl ?_
  intro v1 M1 hlp0
  obtain ⟨cc, hcc, hlp, hv1⟩ := LPo.ex hlp0
  subst hv1
  clear hlp0
  have hc3 : cc ≤ 3 := by rw [hcc]; exact cd1_le _
  have hmd := hj.mid hlp
  refine V.eSt (st' := [.int (nI cc)]) rfl ?_
  refine r_istore C (lo' := [(5, .int (nI cc)), (0, .ref b), (1, .ref (α 0)), (2, .ref mb), (3, .ref ao), (4, .int (nI i))]) dL_law_1887 (by decide) rfl ?_
  refine r_aload_n C 3 dL_law_1889 rfl rfl ?_
  refine r_aload_n C 1 dL_law_1890 rfl rfl ?_
  refine r_iload C 5 dL_law_1891 rfl ?_
  refine r_iconst C (v := nI 1) dL_law_1893 (by decide) ?_
  refine r_iaddN C dL_law_1894 ?_
  refine r_sld C hX hbl hbA hL (i := i + 1) (by omega) dL_law_1895 ?_
  refine r_aload_n C 1 dL_law_1896 rfl rfl ?_
  refine r_iload C 5 dL_law_1897 rfl ?_
  refine r_iconst C (v := nI 2) dL_law_1899 (by decide) ?_
  refine r_iaddN C dL_law_1900 ?_
  refine r_sld C hX hbl hbA hL (i := i + 2) (by omega) dL_law_1901 ?_
  refine r_callV C hgX (ci := 14) ml_L_213 im_X12_pensionOf se_X12_pensionOf rfl rfl hmd.1.1 (c_X12_pensionOf l hfl G M1 mb τ hmd.1 hmd.2.1 hw hmd.2.2.1 hmd.2.2.2 (xs (i + 1)) (xs (i + 2))) rfl (Nat.le_of_ble_eq_true rfl) (rm_hR (Nat.le_of_ble_eq_true rfl) (Nat.le_of_ble_eq_true rfl)) (rm_hf (by omega) (by omega)) dL_law_1902 rfl ?_
  intro v2 M2 hpp0
  have hpp := PP.ex hcc hpp0
  clear hpp0
  obtain ⟨be, hj2, hlk⟩ := hj.step2 (n := n9 + 1) (fun _ => ⟨hw, hk.up⟩) hk.up hlp hpp
  obtain ⟨x2, hx2⟩ := hpp.2.2.2.2.2
  subst hx2
  refine V.eSt (st' := [.long x2]) rfl ?_
  refine r_lstore C (lo' := [(6, .long x2), (5, .int (nI cc)), (0, .ref b), (1, .ref (α 0)), (2, .ref mb), (3, .ref ao), (4, .int (nI i))]) dL_law_1905 (by decide) rfl ?_
  refine r_aload_n C 4 dL_law_1907 rfl rfl ?_
  refine r_callV C hgX (ci := 14) ml_L_138 im_X12_thrown se_X12_thrown rfl rfl hj2.2.2.2.1.1.1 (c_X12_thrown l hfl G M2 mb hj2.2.2.2.1.1) rfl (Nat.le_of_ble_eq_true rfl) (rm_hR (Nat.le_of_ble_eq_true rfl) (Nat.le_of_ble_eq_true rfl)) (rm_hf (by omega) (by omega)) dL_law_1908 rfl ?_
  intro v3 M3 h3
  obtain ⟨hv3, hM3⟩ := h3
  subst hv3
  subst hM3
  refine V.eSt (st' := [.int (nI cc)]) (congrArg (fun z_ => [Value.int z_]) hpp.1) ?_
  refine r_iload C 1 dL_law_1911 rfl ?_
  refine r_icmp_eqN C (t := 1918) (by omega) (by omega) dL_law_1913 (by decide) (fun c1913 => ?_) (fun c1913 => ?_)
  · skip
    refine r_iload C 1 dL_law_1918 rfl ?_
    refine r_if_neN C (t := 1934) (by omega) dL_law_1920 (by decide) (fun c1920 => ?_) (fun c1920 => ?_)
    · skip
      refine r_goto C (t := 2691) dL_law_1934 (by decide) ?_
      refine V.sub [2, 3, 4, 5, 6] (lo' := [(0, .ref b), (1, .ref (α 0)), (2, .ref mb), (3, .ref ao), (4, .int (nI i))]) rfl ?_
      refine V.widen (k := cells + 20) (n := slots + 4000) (by omega) (by omega) ?_
      exact kk _ be M2 hj2 hlk
    · skip
      refine r_aload_n C 5 dL_law_1923 rfl rfl ?_
      refine r_iconst C (v := nI 0) dL_law_1924 (by decide) ?_
      refine r_laloadN C hj2.2.2.2.2.1.1 hj2.2.2.2.2.1.2 (by omega) (by omega) dL_law_1925 ?_
      refine r_lload C 0 dL_law_1926 rfl ?_
      have hA := hj.out hlp hpp c1920
      have hB := so_l (hpp.2.2.2.2.1 c1920).1
      refine r_lcmp_eq C (t := 1934) dL_law_1928 dL_law_1929 (by decide) (fun c1929 => ?_) (fun c1929 => ?_)
      · skip
        refine r_goto C (t := 2691) dL_law_1934 (by decide) ?_
        refine V.sub [2, 3, 4, 5, 6] (lo' := [(0, .ref b), (1, .ref (α 0)), (2, .ref mb), (3, .ref ao), (4, .int (nI i))]) rfl ?_
        refine V.widen (k := cells + 20) (n := slots + 4000) (by omega) (by omega) ?_
        exact kk _ be M2 hj2 hlk
      · exact absurd (by rw [hA, hB]) c1929
  · exact absurd rfl c1913
set_option maxHeartbeats 1000000 in
set_option maxRecDepth 100000 in
theorem lc_grossFor (l : Launch) (hfl : l.flags = flags0) {p : Program} {e : Env} {s : State} {m : MethodId} {args : Array Value} {below : List Frame} {meth : Method} {c : Code} {G : gW} (C : Cx p l s m args meth c G RL cL_law 8) (hgX : gX G s s.heap) {b L : Nat} {xs : Nat → Int32} (hX : va_X b L xs s s.heap) (hbl : b < s.heap.size) (hbA : ¬ gA G b) (hL : L ≤ 4096) {i : Nat} (hi : i + 8 ≤ L) {τ : Mu} {α : Nat → Nat} {M : Mem} {q mb ao n9 : Nat} (hj : LJ τ G α M q mb ao) (hk : LK n9 τ) (hn9 : n9 ≤ 600) {cells slots : Nat} (hcs : cells ≤ 500000) (hss : slots ≤ 7000000) {Q : State → Prop} (kk : ∀ U be M2, LJ U G be M2 q mb ao → LK (n9 + 1) U → V p l e room_1 s m args below meth c G Q 8 M2 (cells + 20) (slots + 4000) 2691 [(0, .ref b), (1, .ref q), (2, .ref mb), (3, .ref ao), (4, .int (nI i))] []) : V p l e room_1 s m args below meth c G Q 8 M cells slots 1937 [(0, .ref b), (1, .ref q), (2, .ref mb), (3, .ref ao), (4, .int (nI i))] [] := by
  have hj0 := hj
  obtain ⟨hw, ⟨hws, hwt, hwb⟩, ha0, hmt, ⟨hao, hao1⟩, han, hmn, hom⟩ := hj0
  subst ha0
  refine r_aload_n C 1 dL_law_1937 rfl rfl ?_
  refine r_aload_n C 0 dL_law_1938 rfl rfl ?_
  refine r_iload C 4 dL_law_1939 rfl ?_
  refine r_iconst C (v := nI 1) dL_law_1941 (by decide) ?_
  refine r_iaddN C dL_law_1942 ?_
  refine r_sld C hX hbl hbA hL (i := i + 1) (by omega) dL_law_1943 ?_
  refine r_aload_n C 0 dL_law_1944 rfl rfl ?_
  refine r_iload C 4 dL_law_1945 rfl ?_
  refine r_iconst C (v := nI 2) dL_law_1947 (by decide) ?_
  refine r_iaddN C dL_law_1948 ?_
  refine r_sld C hX hbl hbA hL (i := i + 2) (by omega) dL_law_1949 ?_
  refine r_aload_n C 0 dL_law_1950 rfl rfl ?_
  refine r_iload C 4 dL_law_1951 rfl ?_
  refine r_iconst C (v := nI 3) dL_law_1953 (by decide) ?_
  refine r_iaddN C dL_law_1954 ?_
  refine r_sld C hX hbl hbA hL (i := i + 3) (by omega) dL_law_1955 ?_
  refine r_aload_n C 0 dL_law_1956 rfl rfl ?_
  refine r_iload C 4 dL_law_1957 rfl ?_
  refine r_iconst C (v := nI 4) dL_law_1959 (by decide) ?_
  refine r_iaddN C dL_law_1960 ?_
  refine r_sld C hX hbl hbA hL (i := i + 4) (by omega) dL_law_1961 ?_
  refine r_aload_n C 3 dL_law_1962 rfl rfl ?_
  refine r_callH C hgX hl_grossFor (c_L_grossFor l hfl G M τ hw α hws hwt hwb (hk.ad hn9) (xs (i + 1)) (xs (i + 2)) (xs (i + 3)) (xs (i + 4)) hk.2.2.1 ao hao hao1 han (fun _ => hw)) rfl (Nat.le_of_ble_eq_true rfl) (rm_hR (Nat.le_of_ble_eq_true rfl) (Nat.le_of_ble_eq_true rfl)) (rm_hf (by omega) (by omega)) dL_law_1963 rfl ?_
  intro v1 M1 hlp0
  obtain ⟨cc, hcc, hlp, hv1⟩ := LPo.ex hlp0
  subst hv1
  clear hlp0
  have hc3 : cc ≤ 3 := by rw [hcc]; exact cd2_le _ _
  have hmd := hj.mid hlp
  refine V.eSt (st' := [.int (nI cc)]) rfl ?_
  refine r_istore C (lo' := [(5, .int (nI cc)), (0, .ref b), (1, .ref (α 0)), (2, .ref mb), (3, .ref ao), (4, .int (nI i))]) dL_law_1966 (by decide) rfl ?_
  refine r_aload_n C 3 dL_law_1968 rfl rfl ?_
  refine r_aload_n C 1 dL_law_1969 rfl rfl ?_
  refine r_iload C 5 dL_law_1970 rfl ?_
  refine r_iconst C (v := nI 1) dL_law_1972 (by decide) ?_
  refine r_iaddN C dL_law_1973 ?_
  refine r_sld C hX hbl hbA hL (i := i + 1) (by omega) dL_law_1974 ?_
  refine r_aload_n C 1 dL_law_1975 rfl rfl ?_
  refine r_iload C 5 dL_law_1976 rfl ?_
  refine r_iconst C (v := nI 2) dL_law_1978 (by decide) ?_
  refine r_iaddN C dL_law_1979 ?_
  refine r_sld C hX hbl hbA hL (i := i + 2) (by omega) dL_law_1980 ?_
  refine r_aload_n C 1 dL_law_1981 rfl rfl ?_
  refine r_iload C 5 dL_law_1982 rfl ?_
  refine r_iconst C (v := nI 3) dL_law_1984 (by decide) ?_
  refine r_iaddN C dL_law_1985 ?_
  refine r_sld C hX hbl hbA hL (i := i + 3) (by omega) dL_law_1986 ?_
  refine r_aload_n C 1 dL_law_1987 rfl rfl ?_
  refine r_iload C 5 dL_law_1988 rfl ?_
  refine r_iconst C (v := nI 4) dL_law_1990 (by decide) ?_
  refine r_iaddN C dL_law_1991 ?_
  refine r_sld C hX hbl hbA hL (i := i + 4) (by omega) dL_law_1992 ?_
  refine r_callV C hgX (ci := 14) ml_L_216 im_X12_grossFor se_X12_grossFor rfl rfl hmd.1.1 (c_X12_grossFor l hfl G M1 mb τ hmd.1 hmd.2.1 hw hmd.2.2.1 hmd.2.2.2 (xs (i + 1)) (xs (i + 2)) (xs (i + 3)) (xs (i + 4)) hk.2.2.1) rfl (Nat.le_of_ble_eq_true rfl) (rm_hR (Nat.le_of_ble_eq_true rfl) (Nat.le_of_ble_eq_true rfl)) (rm_hf (by omega) (by omega)) dL_law_1993 rfl ?_
  intro v2 M2 hpp0
  have hpp := PP.ex hcc hpp0
  clear hpp0
  obtain ⟨be, hj2, hlk⟩ := hj.step2 (n := n9 + 1) (fun _ => ⟨hw, hk.up⟩) hk.up hlp hpp
  obtain ⟨x2, hx2⟩ := hpp.2.2.2.2.2
  subst hx2
  refine V.eSt (st' := [.int x2]) rfl ?_
  refine r_istore C (lo' := [(6, .int x2), (5, .int (nI cc)), (0, .ref b), (1, .ref (α 0)), (2, .ref mb), (3, .ref ao), (4, .int (nI i))]) dL_law_1996 (by decide) rfl ?_
  refine r_aload_n C 4 dL_law_1998 rfl rfl ?_
  refine r_callV C hgX (ci := 14) ml_L_138 im_X12_thrown se_X12_thrown rfl rfl hj2.2.2.2.1.1.1 (c_X12_thrown l hfl G M2 mb hj2.2.2.2.1.1) rfl (Nat.le_of_ble_eq_true rfl) (rm_hR (Nat.le_of_ble_eq_true rfl) (Nat.le_of_ble_eq_true rfl)) (rm_hf (by omega) (by omega)) dL_law_1999 rfl ?_
  intro v3 M3 h3
  obtain ⟨hv3, hM3⟩ := h3
  subst hv3
  subst hM3
  refine V.eSt (st' := [.int (nI cc)]) (congrArg (fun z_ => [Value.int z_]) hpp.1) ?_
  refine r_iload C 1 dL_law_2002 rfl ?_
  refine r_icmp_eqN C (t := 2009) (by omega) (by omega) dL_law_2004 (by decide) (fun c2004 => ?_) (fun c2004 => ?_)
  · skip
    refine r_iload C 1 dL_law_2009 rfl ?_
    refine r_if_neN C (t := 2026) (by omega) dL_law_2011 (by decide) (fun c2011 => ?_) (fun c2011 => ?_)
    · skip
      refine r_goto C (t := 2691) dL_law_2026 (by decide) ?_
      refine V.sub [2, 3, 4, 5, 6] (lo' := [(0, .ref b), (1, .ref (α 0)), (2, .ref mb), (3, .ref ao), (4, .int (nI i))]) rfl ?_
      refine V.widen (k := cells + 20) (n := slots + 4000) (by omega) (by omega) ?_
      exact kk _ be M2 hj2 hlk
    · skip
      refine r_aload_n C 5 dL_law_2014 rfl rfl ?_
      refine r_iconst C (v := nI 0) dL_law_2015 (by decide) ?_
      refine r_laloadN C hj2.2.2.2.2.1.1 hj2.2.2.2.2.1.2 (by omega) (by omega) dL_law_2016 ?_
      refine r_iload C 0 dL_law_2017 rfl ?_
      refine r_i2l C dL_law_2019 ?_
      have hA := hj.out hlp hpp c2011
      have hB := so_i (hpp.2.2.2.2.1 c2011).1
      refine r_lcmp_eq C (t := 2026) dL_law_2020 dL_law_2021 (by decide) (fun c2021 => ?_) (fun c2021 => ?_)
      · skip
        refine r_goto C (t := 2691) dL_law_2026 (by decide) ?_
        refine V.sub [2, 3, 4, 5, 6] (lo' := [(0, .ref b), (1, .ref (α 0)), (2, .ref mb), (3, .ref ao), (4, .int (nI i))]) rfl ?_
        refine V.widen (k := cells + 20) (n := slots + 4000) (by omega) (by omega) ?_
        exact kk _ be M2 hj2 hlk
      · exact absurd (by rw [hA, hB]) c2021
  · exact absurd rfl c2004
set_option maxHeartbeats 1000000 in
set_option maxRecDepth 100000 in
theorem lc_garnish (l : Launch) (hfl : l.flags = flags0) {p : Program} {e : Env} {s : State} {m : MethodId} {args : Array Value} {below : List Frame} {meth : Method} {c : Code} {G : gW} (C : Cx p l s m args meth c G RL cL_law 8) (hgX : gX G s s.heap) {b L : Nat} {xs : Nat → Int32} (hX : va_X b L xs s s.heap) (hbl : b < s.heap.size) (hbA : ¬ gA G b) (hL : L ≤ 4096) {i : Nat} (hi : i + 8 ≤ L) {τ : Mu} {α : Nat → Nat} {M : Mem} {q mb ao n9 : Nat} (hj : LJ τ G α M q mb ao) (hk : LK n9 τ) (hn9 : n9 ≤ 600) {cells slots : Nat} (hcs : cells ≤ 500000) (hss : slots ≤ 7000000) {Q : State → Prop} (kk : ∀ U be M2, LJ U G be M2 q mb ao → LK (n9 + 1) U → V p l e room_1 s m args below meth c G Q 8 M2 (cells + 20) (slots + 4000) 2691 [(0, .ref b), (1, .ref q), (2, .ref mb), (3, .ref ao), (4, .int (nI i))] []) : V p l e room_1 s m args below meth c G Q 8 M cells slots 2029 [(0, .ref b), (1, .ref q), (2, .ref mb), (3, .ref ao), (4, .int (nI i))] [] := by
  have hj0 := hj
  obtain ⟨hw, ⟨hws, hwt, hwb⟩, ha0, hmt, ⟨hao, hao1⟩, han, hmn, hom⟩ := hj0
  subst ha0
  refine r_aload_n C 1 dL_law_2029 rfl rfl ?_
  refine r_aload_n C 0 dL_law_2030 rfl rfl ?_
  refine r_iload C 4 dL_law_2031 rfl ?_
  refine r_iconst C (v := nI 1) dL_law_2033 (by decide) ?_
  refine r_iaddN C dL_law_2034 ?_
  refine r_sld C hX hbl hbA hL (i := i + 1) (by omega) dL_law_2035 ?_
  refine r_aload_n C 0 dL_law_2036 rfl rfl ?_
  refine r_iload C 4 dL_law_2037 rfl ?_
  refine r_iconst C (v := nI 2) dL_law_2039 (by decide) ?_
  refine r_iaddN C dL_law_2040 ?_
  refine r_sld C hX hbl hbA hL (i := i + 2) (by omega) dL_law_2041 ?_
  refine r_aload_n C 0 dL_law_2042 rfl rfl ?_
  refine r_iload C 4 dL_law_2043 rfl ?_
  refine r_iconst C (v := nI 3) dL_law_2045 (by decide) ?_
  refine r_iaddN C dL_law_2046 ?_
  refine r_sld C hX hbl hbA hL (i := i + 3) (by omega) dL_law_2047 ?_
  refine r_aload_n C 0 dL_law_2048 rfl rfl ?_
  refine r_iload C 4 dL_law_2049 rfl ?_
  refine r_iconst C (v := nI 4) dL_law_2051 (by decide) ?_
  refine r_iaddN C dL_law_2052 ?_
  refine r_sld C hX hbl hbA hL (i := i + 4) (by omega) dL_law_2053 ?_
  refine r_aload_n C 0 dL_law_2054 rfl rfl ?_
  refine r_iload C 4 dL_law_2055 rfl ?_
  refine r_iconst C (v := nI 5) dL_law_2057 (by decide) ?_
  refine r_iaddN C dL_law_2058 ?_
  refine r_sld C hX hbl hbA hL (i := i + 5) (by omega) dL_law_2059 ?_
  refine r_aload_n C 0 dL_law_2060 rfl rfl ?_
  refine r_iload C 4 dL_law_2061 rfl ?_
  refine r_bipush C (v := nI 6) dL_law_2063 (by decide) ?_
  refine r_iaddN C dL_law_2065 ?_
  refine r_sld C hX hbl hbA hL (i := i + 6) (by omega) dL_law_2066 ?_
  refine r_aload_n C 3 dL_law_2067 rfl rfl ?_
  refine r_callH C hgX hl_garnish (c_L_garnish l hfl G M τ hw α hws hwt hwb (hk.ad hn9) (xs (i + 1)) (xs (i + 2)) (xs (i + 3)) (xs (i + 4)) (xs (i + 5)) (xs (i + 6)) ao hao hao1 han (fun h_ => (lk_garnish hw hk hn9 h_).1)) rfl (Nat.le_of_ble_eq_true rfl) (rm_hR (Nat.le_of_ble_eq_true rfl) (Nat.le_of_ble_eq_true rfl)) (rm_hf (by omega) (by omega)) dL_law_2068 rfl ?_
  intro v1 M1 hlp0
  obtain ⟨cc, hcc, hlp, hv1⟩ := LPo.ex hlp0
  subst hv1
  clear hlp0
  have hc3 : cc ≤ 3 := by rw [hcc]; exact cd3_le _ _ _
  have hmd := hj.mid hlp
  refine V.eSt (st' := [.int (nI cc)]) rfl ?_
  refine r_istore C (lo' := [(5, .int (nI cc)), (0, .ref b), (1, .ref (α 0)), (2, .ref mb), (3, .ref ao), (4, .int (nI i))]) dL_law_2071 (by decide) rfl ?_
  refine r_aload_n C 3 dL_law_2073 rfl rfl ?_
  refine r_aload_n C 1 dL_law_2074 rfl rfl ?_
  refine r_iload C 5 dL_law_2075 rfl ?_
  refine r_iconst C (v := nI 1) dL_law_2077 (by decide) ?_
  refine r_iaddN C dL_law_2078 ?_
  refine r_sld C hX hbl hbA hL (i := i + 1) (by omega) dL_law_2079 ?_
  refine r_aload_n C 1 dL_law_2080 rfl rfl ?_
  refine r_iload C 5 dL_law_2081 rfl ?_
  refine r_iconst C (v := nI 2) dL_law_2083 (by decide) ?_
  refine r_iaddN C dL_law_2084 ?_
  refine r_sld C hX hbl hbA hL (i := i + 2) (by omega) dL_law_2085 ?_
  refine r_aload_n C 1 dL_law_2086 rfl rfl ?_
  refine r_iload C 5 dL_law_2087 rfl ?_
  refine r_iconst C (v := nI 3) dL_law_2089 (by decide) ?_
  refine r_iaddN C dL_law_2090 ?_
  refine r_sld C hX hbl hbA hL (i := i + 3) (by omega) dL_law_2091 ?_
  refine r_aload_n C 1 dL_law_2092 rfl rfl ?_
  refine r_iload C 5 dL_law_2093 rfl ?_
  refine r_iconst C (v := nI 4) dL_law_2095 (by decide) ?_
  refine r_iaddN C dL_law_2096 ?_
  refine r_sld C hX hbl hbA hL (i := i + 4) (by omega) dL_law_2097 ?_
  refine r_aload_n C 1 dL_law_2098 rfl rfl ?_
  refine r_iload C 5 dL_law_2099 rfl ?_
  refine r_iconst C (v := nI 5) dL_law_2101 (by decide) ?_
  refine r_iaddN C dL_law_2102 ?_
  refine r_sld C hX hbl hbA hL (i := i + 5) (by omega) dL_law_2103 ?_
  refine r_aload_n C 1 dL_law_2104 rfl rfl ?_
  refine r_iload C 5 dL_law_2105 rfl ?_
  refine r_bipush C (v := nI 6) dL_law_2107 (by decide) ?_
  refine r_iaddN C dL_law_2109 ?_
  refine r_sld C hX hbl hbA hL (i := i + 6) (by omega) dL_law_2110 ?_
  refine r_callV C hgX (ci := 14) ml_L_220 im_X12_garnish se_X12_garnish rfl rfl hmd.1.1 (c_X12_garnish l hfl G M1 mb τ hmd.1 hmd.2.1 hw hmd.2.2.1 hmd.2.2.2 (xs (i + 1)) (xs (i + 2)) (xs (i + 3)) (xs (i + 4)) (xs (i + 5)) (xs (i + 6))) rfl (Nat.le_of_ble_eq_true rfl) (rm_hR (Nat.le_of_ble_eq_true rfl) (Nat.le_of_ble_eq_true rfl)) (rm_hf (by omega) (by omega)) dL_law_2111 rfl ?_
  intro v2 M2 hpp0
  have hpp := PP.ex hcc hpp0
  clear hpp0
  obtain ⟨be, hj2, hlk⟩ := hj.step2 (n := n9 + 1) (fun h_ => lk_garnish hw hk hn9 (hcc.symm.trans h_)) hk.up hlp hpp
  obtain ⟨x2, hx2⟩ := hpp.2.2.2.2.2
  subst hx2
  refine V.eSt (st' := [.int x2]) rfl ?_
  refine r_istore C (lo' := [(6, .int x2), (5, .int (nI cc)), (0, .ref b), (1, .ref (α 0)), (2, .ref mb), (3, .ref ao), (4, .int (nI i))]) dL_law_2114 (by decide) rfl ?_
  refine r_aload_n C 4 dL_law_2116 rfl rfl ?_
  refine r_callV C hgX (ci := 14) ml_L_138 im_X12_thrown se_X12_thrown rfl rfl hj2.2.2.2.1.1.1 (c_X12_thrown l hfl G M2 mb hj2.2.2.2.1.1) rfl (Nat.le_of_ble_eq_true rfl) (rm_hR (Nat.le_of_ble_eq_true rfl) (Nat.le_of_ble_eq_true rfl)) (rm_hf (by omega) (by omega)) dL_law_2117 rfl ?_
  intro v3 M3 h3
  obtain ⟨hv3, hM3⟩ := h3
  subst hv3
  subst hM3
  refine V.eSt (st' := [.int (nI cc)]) (congrArg (fun z_ => [Value.int z_]) hpp.1) ?_
  refine r_iload C 1 dL_law_2120 rfl ?_
  refine r_icmp_eqN C (t := 2127) (by omega) (by omega) dL_law_2122 (by decide) (fun c2122 => ?_) (fun c2122 => ?_)
  · skip
    refine r_iload C 1 dL_law_2127 rfl ?_
    refine r_if_neN C (t := 2144) (by omega) dL_law_2129 (by decide) (fun c2129 => ?_) (fun c2129 => ?_)
    · skip
      refine r_goto C (t := 2691) dL_law_2144 (by decide) ?_
      refine V.sub [2, 3, 4, 5, 6] (lo' := [(0, .ref b), (1, .ref (α 0)), (2, .ref mb), (3, .ref ao), (4, .int (nI i))]) rfl ?_
      refine V.widen (k := cells + 20) (n := slots + 4000) (by omega) (by omega) ?_
      exact kk _ be M2 hj2 hlk
    · skip
      refine r_aload_n C 5 dL_law_2132 rfl rfl ?_
      refine r_iconst C (v := nI 0) dL_law_2133 (by decide) ?_
      refine r_laloadN C hj2.2.2.2.2.1.1 hj2.2.2.2.2.1.2 (by omega) (by omega) dL_law_2134 ?_
      refine r_iload C 0 dL_law_2135 rfl ?_
      refine r_i2l C dL_law_2137 ?_
      have hA := hj.out hlp hpp c2129
      have hB := so_i (hpp.2.2.2.2.1 c2129).1
      refine r_lcmp_eq C (t := 2144) dL_law_2138 dL_law_2139 (by decide) (fun c2139 => ?_) (fun c2139 => ?_)
      · skip
        refine r_goto C (t := 2691) dL_law_2144 (by decide) ?_
        refine V.sub [2, 3, 4, 5, 6] (lo' := [(0, .ref b), (1, .ref (α 0)), (2, .ref mb), (3, .ref ao), (4, .int (nI i))]) rfl ?_
        refine V.widen (k := cells + 20) (n := slots + 4000) (by omega) (by omega) ?_
        exact kk _ be M2 hj2 hlk
      · exact absurd (by rw [hA, hB]) c2139
  · exact absurd rfl c2122
set_option maxHeartbeats 1000000 in
set_option maxRecDepth 100000 in
theorem lc_takenBy (l : Launch) (hfl : l.flags = flags0) {p : Program} {e : Env} {s : State} {m : MethodId} {args : Array Value} {below : List Frame} {meth : Method} {c : Code} {G : gW} (C : Cx p l s m args meth c G RL cL_law 8) (hgX : gX G s s.heap) {b L : Nat} {xs : Nat → Int32} (hX : va_X b L xs s s.heap) (hbl : b < s.heap.size) (hbA : ¬ gA G b) (hL : L ≤ 4096) {i : Nat} (hi : i + 8 ≤ L) {τ : Mu} {α : Nat → Nat} {M : Mem} {q mb ao n9 : Nat} (hj : LJ τ G α M q mb ao) (hk : LK n9 τ) (hn9 : n9 ≤ 600) {cells slots : Nat} (hcs : cells ≤ 500000) (hss : slots ≤ 7000000) {Q : State → Prop} (kk : ∀ U be M2, LJ U G be M2 q mb ao → LK (n9 + 1) U → V p l e room_1 s m args below meth c G Q 8 M2 (cells + 20) (slots + 4000) 2691 [(0, .ref b), (1, .ref q), (2, .ref mb), (3, .ref ao), (4, .int (nI i))] []) : V p l e room_1 s m args below meth c G Q 8 M cells slots 2147 [(0, .ref b), (1, .ref q), (2, .ref mb), (3, .ref ao), (4, .int (nI i))] [] := by
  have hj0 := hj
  obtain ⟨hw, ⟨hws, hwt, hwb⟩, ha0, hmt, ⟨hao, hao1⟩, han, hmn, hom⟩ := hj0
  subst ha0
  refine r_aload_n C 1 dL_law_2147 rfl rfl ?_
  refine r_aload_n C 0 dL_law_2148 rfl rfl ?_
  refine r_iload C 4 dL_law_2149 rfl ?_
  refine r_iconst C (v := nI 1) dL_law_2151 (by decide) ?_
  refine r_iaddN C dL_law_2152 ?_
  refine r_sld C hX hbl hbA hL (i := i + 1) (by omega) dL_law_2153 ?_
  refine r_aload_n C 0 dL_law_2154 rfl rfl ?_
  refine r_iload C 4 dL_law_2155 rfl ?_
  refine r_iconst C (v := nI 2) dL_law_2157 (by decide) ?_
  refine r_iaddN C dL_law_2158 ?_
  refine r_sld C hX hbl hbA hL (i := i + 2) (by omega) dL_law_2159 ?_
  refine r_aload_n C 3 dL_law_2160 rfl rfl ?_
  refine r_callH C hgX hl_takenBy (c_L_takenBy l hfl G M τ hw α hws hwt hwb (hk.ad hn9) (xs (i + 1)) (xs (i + 2)) ao hao hao1 han (fun _ => hw)) rfl (Nat.le_of_ble_eq_true rfl) (rm_hR (Nat.le_of_ble_eq_true rfl) (Nat.le_of_ble_eq_true rfl)) (rm_hf (by omega) (by omega)) dL_law_2161 rfl ?_
  intro v1 M1 hlp0
  obtain ⟨cc, hcc, hlp, hv1⟩ := LPo.ex hlp0
  subst hv1
  clear hlp0
  have hc3 : cc ≤ 3 := by rw [hcc]; exact cd1_le _
  have hmd := hj.mid hlp
  refine V.eSt (st' := [.int (nI cc)]) rfl ?_
  refine r_istore C (lo' := [(5, .int (nI cc)), (0, .ref b), (1, .ref (α 0)), (2, .ref mb), (3, .ref ao), (4, .int (nI i))]) dL_law_2164 (by decide) rfl ?_
  refine r_aload_n C 3 dL_law_2166 rfl rfl ?_
  refine r_aload_n C 1 dL_law_2167 rfl rfl ?_
  refine r_iload C 5 dL_law_2168 rfl ?_
  refine r_iconst C (v := nI 1) dL_law_2170 (by decide) ?_
  refine r_iaddN C dL_law_2171 ?_
  refine r_sld C hX hbl hbA hL (i := i + 1) (by omega) dL_law_2172 ?_
  refine r_aload_n C 1 dL_law_2173 rfl rfl ?_
  refine r_iload C 5 dL_law_2174 rfl ?_
  refine r_iconst C (v := nI 2) dL_law_2176 (by decide) ?_
  refine r_iaddN C dL_law_2177 ?_
  refine r_sld C hX hbl hbA hL (i := i + 2) (by omega) dL_law_2178 ?_
  refine r_callV C hgX (ci := 14) ml_L_223 im_X12_takenBy se_X12_takenBy rfl rfl hmd.1.1 (c_X12_takenBy l hfl G M1 mb τ hmd.1 hmd.2.1 hw hmd.2.2.1 hmd.2.2.2 (xs (i + 1)) (xs (i + 2))) rfl (Nat.le_of_ble_eq_true rfl) (rm_hR (Nat.le_of_ble_eq_true rfl) (Nat.le_of_ble_eq_true rfl)) (rm_hf (by omega) (by omega)) dL_law_2179 rfl ?_
  intro v2 M2 hpp0
  have hpp := PP.ex hcc hpp0
  clear hpp0
  obtain ⟨be, hj2, hlk⟩ := hj.step2 (n := n9 + 1) (fun _ => ⟨hw, hk.up⟩) hk.up hlp hpp
  obtain ⟨x2, hx2⟩ := hpp.2.2.2.2.2
  subst hx2
  refine V.eSt (st' := [.long x2]) rfl ?_
  refine r_lstore C (lo' := [(6, .long x2), (5, .int (nI cc)), (0, .ref b), (1, .ref (α 0)), (2, .ref mb), (3, .ref ao), (4, .int (nI i))]) dL_law_2182 (by decide) rfl ?_
  refine r_aload_n C 4 dL_law_2184 rfl rfl ?_
  refine r_callV C hgX (ci := 14) ml_L_138 im_X12_thrown se_X12_thrown rfl rfl hj2.2.2.2.1.1.1 (c_X12_thrown l hfl G M2 mb hj2.2.2.2.1.1) rfl (Nat.le_of_ble_eq_true rfl) (rm_hR (Nat.le_of_ble_eq_true rfl) (Nat.le_of_ble_eq_true rfl)) (rm_hf (by omega) (by omega)) dL_law_2185 rfl ?_
  intro v3 M3 h3
  obtain ⟨hv3, hM3⟩ := h3
  subst hv3
  subst hM3
  refine V.eSt (st' := [.int (nI cc)]) (congrArg (fun z_ => [Value.int z_]) hpp.1) ?_
  refine r_iload C 1 dL_law_2188 rfl ?_
  refine r_icmp_eqN C (t := 2195) (by omega) (by omega) dL_law_2190 (by decide) (fun c2190 => ?_) (fun c2190 => ?_)
  · skip
    refine r_iload C 1 dL_law_2195 rfl ?_
    refine r_if_neN C (t := 2211) (by omega) dL_law_2197 (by decide) (fun c2197 => ?_) (fun c2197 => ?_)
    · skip
      refine r_goto C (t := 2691) dL_law_2211 (by decide) ?_
      refine V.sub [2, 3, 4, 5, 6] (lo' := [(0, .ref b), (1, .ref (α 0)), (2, .ref mb), (3, .ref ao), (4, .int (nI i))]) rfl ?_
      refine V.widen (k := cells + 20) (n := slots + 4000) (by omega) (by omega) ?_
      exact kk _ be M2 hj2 hlk
    · skip
      refine r_aload_n C 5 dL_law_2200 rfl rfl ?_
      refine r_iconst C (v := nI 0) dL_law_2201 (by decide) ?_
      refine r_laloadN C hj2.2.2.2.2.1.1 hj2.2.2.2.2.1.2 (by omega) (by omega) dL_law_2202 ?_
      refine r_lload C 0 dL_law_2203 rfl ?_
      have hA := hj.out hlp hpp c2197
      have hB := so_l (hpp.2.2.2.2.1 c2197).1
      refine r_lcmp_eq C (t := 2211) dL_law_2205 dL_law_2206 (by decide) (fun c2206 => ?_) (fun c2206 => ?_)
      · skip
        refine r_goto C (t := 2691) dL_law_2211 (by decide) ?_
        refine V.sub [2, 3, 4, 5, 6] (lo' := [(0, .ref b), (1, .ref (α 0)), (2, .ref mb), (3, .ref ao), (4, .int (nI i))]) rfl ?_
        refine V.widen (k := cells + 20) (n := slots + 4000) (by omega) (by omega) ?_
        exact kk _ be M2 hj2 hlk
      · exact absurd (by rw [hA, hB]) c2206
  · exact absurd rfl c2190
set_option maxHeartbeats 1000000 in
set_option maxRecDepth 100000 in
theorem lc_advance (l : Launch) (hfl : l.flags = flags0) {p : Program} {e : Env} {s : State} {m : MethodId} {args : Array Value} {below : List Frame} {meth : Method} {c : Code} {G : gW} (C : Cx p l s m args meth c G RL cL_law 8) (hgX : gX G s s.heap) {b L : Nat} {xs : Nat → Int32} (hX : va_X b L xs s s.heap) (hbl : b < s.heap.size) (hbA : ¬ gA G b) (hL : L ≤ 4096) {i : Nat} (hi : i + 8 ≤ L) {τ : Mu} {α : Nat → Nat} {M : Mem} {q mb ao n9 : Nat} (hj : LJ τ G α M q mb ao) (hk : LK n9 τ) (hn9 : n9 ≤ 600) {cells slots : Nat} (hcs : cells ≤ 500000) (hss : slots ≤ 7000000) {Q : State → Prop} (kk : ∀ U be M2, LJ U G be M2 q mb ao → LK (n9 + 1) U → V p l e room_1 s m args below meth c G Q 8 M2 (cells + 20) (slots + 4000) 2691 [(0, .ref b), (1, .ref q), (2, .ref mb), (3, .ref ao), (4, .int (nI i))] []) : V p l e room_1 s m args below meth c G Q 8 M cells slots 2214 [(0, .ref b), (1, .ref q), (2, .ref mb), (3, .ref ao), (4, .int (nI i))] [] := by
  have hj0 := hj
  obtain ⟨hw, ⟨hws, hwt, hwb⟩, ha0, hmt, ⟨hao, hao1⟩, han, hmn, hom⟩ := hj0
  subst ha0
  refine r_aload_n C 1 dL_law_2214 rfl rfl ?_
  refine r_aload_n C 0 dL_law_2215 rfl rfl ?_
  refine r_iload C 4 dL_law_2216 rfl ?_
  refine r_iconst C (v := nI 1) dL_law_2218 (by decide) ?_
  refine r_iaddN C dL_law_2219 ?_
  refine r_sld C hX hbl hbA hL (i := i + 1) (by omega) dL_law_2220 ?_
  refine r_aload_n C 0 dL_law_2221 rfl rfl ?_
  refine r_iload C 4 dL_law_2222 rfl ?_
  refine r_iconst C (v := nI 2) dL_law_2224 (by decide) ?_
  refine r_iaddN C dL_law_2225 ?_
  refine r_sld C hX hbl hbA hL (i := i + 2) (by omega) dL_law_2226 ?_
  refine r_aload_n C 3 dL_law_2227 rfl rfl ?_
  refine r_callH C hgX hl_advance (c_L_advance l hfl G M τ hw α hws hwt hwb (hk.ad hn9) (xs (i + 1)) (xs (i + 2)) ao hao hao1 han (fun h_ => (lk_advance hw hk hn9 h_).1)) rfl (Nat.le_of_ble_eq_true rfl) (rm_hR (Nat.le_of_ble_eq_true rfl) (Nat.le_of_ble_eq_true rfl)) (rm_hf (by omega) (by omega)) dL_law_2228 rfl ?_
  intro v1 M1 hlp0
  obtain ⟨cc, hcc, hlp, hv1⟩ := LPo.ex hlp0
  subst hv1
  clear hlp0
  have hc3 : cc ≤ 3 := by rw [hcc]; exact cd3_le _ _ _
  have hmd := hj.mid hlp
  refine V.eSt (st' := [.int (nI cc)]) rfl ?_
  refine r_istore C (lo' := [(5, .int (nI cc)), (0, .ref b), (1, .ref (α 0)), (2, .ref mb), (3, .ref ao), (4, .int (nI i))]) dL_law_2231 (by decide) rfl ?_
  refine r_aload_n C 3 dL_law_2233 rfl rfl ?_
  refine r_aload_n C 1 dL_law_2234 rfl rfl ?_
  refine r_iload C 5 dL_law_2235 rfl ?_
  refine r_iconst C (v := nI 1) dL_law_2237 (by decide) ?_
  refine r_iaddN C dL_law_2238 ?_
  refine r_sld C hX hbl hbA hL (i := i + 1) (by omega) dL_law_2239 ?_
  refine r_aload_n C 1 dL_law_2240 rfl rfl ?_
  refine r_iload C 5 dL_law_2241 rfl ?_
  refine r_iconst C (v := nI 2) dL_law_2243 (by decide) ?_
  refine r_iaddN C dL_law_2244 ?_
  refine r_sld C hX hbl hbA hL (i := i + 2) (by omega) dL_law_2245 ?_
  refine r_callV C hgX (ci := 14) ml_L_226 im_X12_advance se_X12_advance rfl rfl hmd.1.1 (c_X12_advance l hfl G M1 mb τ hmd.1 hmd.2.1 hw hmd.2.2.1 hmd.2.2.2 (xs (i + 1)) (xs (i + 2))) rfl (Nat.le_of_ble_eq_true rfl) (rm_hR (Nat.le_of_ble_eq_true rfl) (Nat.le_of_ble_eq_true rfl)) (rm_hf (by omega) (by omega)) dL_law_2246 rfl ?_
  intro v2 M2 hpp0
  have hpp := PP.ex hcc hpp0
  clear hpp0
  obtain ⟨be, hj2, hlk⟩ := hj.step2 (n := n9 + 1) (fun h_ => lk_advance hw hk hn9 (hcc.symm.trans h_)) hk.up hlp hpp
  obtain ⟨x2, hx2⟩ := hpp.2.2.2.2.2
  subst hx2
  refine V.eSt (st' := [.long x2]) rfl ?_
  refine r_lstore C (lo' := [(6, .long x2), (5, .int (nI cc)), (0, .ref b), (1, .ref (α 0)), (2, .ref mb), (3, .ref ao), (4, .int (nI i))]) dL_law_2249 (by decide) rfl ?_
  refine r_aload_n C 4 dL_law_2251 rfl rfl ?_
  refine r_callV C hgX (ci := 14) ml_L_138 im_X12_thrown se_X12_thrown rfl rfl hj2.2.2.2.1.1.1 (c_X12_thrown l hfl G M2 mb hj2.2.2.2.1.1) rfl (Nat.le_of_ble_eq_true rfl) (rm_hR (Nat.le_of_ble_eq_true rfl) (Nat.le_of_ble_eq_true rfl)) (rm_hf (by omega) (by omega)) dL_law_2252 rfl ?_
  intro v3 M3 h3
  obtain ⟨hv3, hM3⟩ := h3
  subst hv3
  subst hM3
  refine V.eSt (st' := [.int (nI cc)]) (congrArg (fun z_ => [Value.int z_]) hpp.1) ?_
  refine r_iload C 1 dL_law_2255 rfl ?_
  refine r_icmp_eqN C (t := 2262) (by omega) (by omega) dL_law_2257 (by decide) (fun c2257 => ?_) (fun c2257 => ?_)
  · skip
    refine r_iload C 1 dL_law_2262 rfl ?_
    refine r_if_neN C (t := 2278) (by omega) dL_law_2264 (by decide) (fun c2264 => ?_) (fun c2264 => ?_)
    · skip
      refine r_goto C (t := 2691) dL_law_2278 (by decide) ?_
      refine V.sub [2, 3, 4, 5, 6] (lo' := [(0, .ref b), (1, .ref (α 0)), (2, .ref mb), (3, .ref ao), (4, .int (nI i))]) rfl ?_
      refine V.widen (k := cells + 20) (n := slots + 4000) (by omega) (by omega) ?_
      exact kk _ be M2 hj2 hlk
    · skip
      refine r_aload_n C 5 dL_law_2267 rfl rfl ?_
      refine r_iconst C (v := nI 0) dL_law_2268 (by decide) ?_
      refine r_laloadN C hj2.2.2.2.2.1.1 hj2.2.2.2.2.1.2 (by omega) (by omega) dL_law_2269 ?_
      refine r_lload C 0 dL_law_2270 rfl ?_
      have hA := hj.out hlp hpp c2264
      have hB := so_l (hpp.2.2.2.2.1 c2264).1
      refine r_lcmp_eq C (t := 2278) dL_law_2272 dL_law_2273 (by decide) (fun c2273 => ?_) (fun c2273 => ?_)
      · skip
        refine r_goto C (t := 2691) dL_law_2278 (by decide) ?_
        refine V.sub [2, 3, 4, 5, 6] (lo' := [(0, .ref b), (1, .ref (α 0)), (2, .ref mb), (3, .ref ao), (4, .int (nI i))]) rfl ?_
        refine V.widen (k := cells + 20) (n := slots + 4000) (by omega) (by omega) ?_
        exact kk _ be M2 hj2 hlk
      · exact absurd (by rw [hA, hB]) c2273
  · exact absurd rfl c2257
