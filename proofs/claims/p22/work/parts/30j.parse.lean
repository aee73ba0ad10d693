theorem dX12_keys_0 : decode cX12_keys 0 = .ok (.aload_n 0, 1) := oc_42 (by decide +kernel)
theorem dX12_keys_1 : decode cX12_keys 1 = .ok (.getfield 7, 3) := oc_180 (a := 0) (b := 7) (by decide +kernel)
theorem dX12_keys_4 : decode cX12_keys 4 = .ok (.iload_n 1, 1) := oc_27 (by decide +kernel)
theorem dX12_keys_5 : decode cX12_keys 5 = .ok (.iconst 4, 1) := oc_7 (by decide +kernel)
theorem dX12_keys_6 : decode cX12_keys 6 = .ok (.iadd, 1) := oc_96 (by decide +kernel)
theorem dX12_keys_7 : decode cX12_keys 7 = .ok (.iconst 0, 1) := oc_3 (by decide +kernel)
theorem dX12_keys_8 : decode cX12_keys 8 = .ok (.iastore, 1) := oc_79 (by decide +kernel)
theorem dX12_keys_9 : decode cX12_keys 9 = .ok (.iconst 1, 1) := oc_4 (by decide +kernel)
theorem dX12_keys_10 : decode cX12_keys 10 = .ok (.istore_n 2, 1) := oc_61 (by decide +kernel)
theorem dX12_keys_11 : decode cX12_keys 11 = .ok (.iload_n 2, 1) := oc_28 (by decide +kernel)
theorem dX12_keys_12 : decode cX12_keys 12 = .ok (.ifCond .eq 136, 3) := oc_153 (a := 0) (b := 136) (by decide +kernel)
theorem dX12_keys_148 : decode cX12_keys 148 = .ok (.iconst 0, 1) := oc_3 (by decide +kernel)
theorem dX12_keys_149 : decode cX12_keys 149 = .ok (.ireturn, 1) := oc_172 (by decide +kernel)
theorem dX12_keys_15 : decode cX12_keys 15 = .ok (.aload_n 0, 1) := oc_42 (by decide +kernel)
theorem dX12_keys_16 : decode cX12_keys 16 = .ok (.getfield 143, 3) := oc_180 (a := 0) (b := 143) (by decide +kernel)
theorem dX12_keys_19 : decode cX12_keys 19 = .ok (.bipush 45, 2) := oc_16 (a := 45) (by decide +kernel)
theorem dX12_keys_21 : decode cX12_keys 21 = .ok (.if_icmp .ne 7, 3) := oc_160 (a := 0) (b := 7) (by decide +kernel)
theorem dX12_keys_28 : decode cX12_keys 28 = .ok (.iconst 0, 1) := oc_3 (by decide +kernel)
theorem dX12_keys_29 : decode cX12_keys 29 = .ok (.istore_n 3, 1) := oc_62 (by decide +kernel)
theorem dX12_keys_30 : decode cX12_keys 30 = .ok (.iload_n 3, 1) := oc_29 (by decide +kernel)
theorem dX12_keys_31 : decode cX12_keys 31 = .ok (.ifCond .ne 10, 3) := oc_154 (a := 0) (b := 10) (by decide +kernel)
theorem dX12_keys_34 : decode cX12_keys 34 = .ok (.aload_n 0, 1) := oc_42 (by decide +kernel)
theorem dX12_keys_35 : decode cX12_keys 35 = .ok (.invokevirtual 192, 3) := oc_182 (a := 0) (b := 192) (by decide +kernel)
theorem dX12_keys_38 : decode cX12_keys 38 = .ok (.ifCond .lt 17, 3) := oc_155 (a := 0) (b := 17) (by decide +kernel)
theorem dX12_keys_55 : decode cX12_keys 55 = .ok (.iload_n 3, 1) := oc_29 (by decide +kernel)
theorem dX12_keys_56 : decode cX12_keys 56 = .ok (.ifCond .eq 7, 3) := oc_153 (a := 0) (b := 7) (by decide +kernel)
theorem dX12_keys_63 : decode cX12_keys 63 = .ok (.aload_n 0, 1) := oc_42 (by decide +kernel)
theorem dX12_keys_64 : decode cX12_keys 64 = .ok (.invokevirtual 192, 3) := oc_182 (a := 0) (b := 192) (by decide +kernel)
theorem dX12_keys_67 : decode cX12_keys 67 = .ok (.ifCond .ge 5, 3) := oc_156 (a := 0) (b := 5) (by decide +kernel)
theorem dX12_keys_72 : decode cX12_keys 72 = .ok (.aload_n 0, 1) := oc_42 (by decide +kernel)
theorem dX12_keys_73 : decode cX12_keys 73 = .ok (.getfield 7, 3) := oc_180 (a := 0) (b := 7) (by decide +kernel)
theorem dX12_keys_76 : decode cX12_keys 76 = .ok (.iload_n 1, 1) := oc_27 (by decide +kernel)
theorem dX12_keys_77 : decode cX12_keys 77 = .ok (.iconst 5, 1) := oc_8 (by decide +kernel)
theorem dX12_keys_78 : decode cX12_keys 78 = .ok (.iadd, 1) := oc_96 (by decide +kernel)
theorem dX12_keys_79 : decode cX12_keys 79 = .ok (.aload_n 0, 1) := oc_42 (by decide +kernel)
theorem dX12_keys_80 : decode cX12_keys 80 = .ok (.getfield 7, 3) := oc_180 (a := 0) (b := 7) (by decide +kernel)
theorem dX12_keys_83 : decode cX12_keys 83 = .ok (.iload_n 1, 1) := oc_27 (by decide +kernel)
theorem dX12_keys_84 : decode cX12_keys 84 = .ok (.iconst 4, 1) := oc_7 (by decide +kernel)
theorem dX12_keys_85 : decode cX12_keys 85 = .ok (.iadd, 1) := oc_96 (by decide +kernel)
theorem dX12_keys_86 : decode cX12_keys 86 = .ok (.iaload, 1) := oc_46 (by decide +kernel)
theorem dX12_keys_87 : decode cX12_keys 87 = .ok (.iadd, 1) := oc_96 (by decide +kernel)
theorem dX12_keys_88 : decode cX12_keys 88 = .ok (.iload_n 3, 1) := oc_29 (by decide +kernel)
theorem dX12_keys_89 : decode cX12_keys 89 = .ok (.ifCond .eq 12, 3) := oc_153 (a := 0) (b := 12) (by decide +kernel)
theorem dX12_keys_101 : decode cX12_keys 101 = .ok (.aload_n 0, 1) := oc_42 (by decide +kernel)
theorem dX12_keys_102 : decode cX12_keys 102 = .ok (.invokevirtual 192, 3) := oc_182 (a := 0) (b := 192) (by decide +kernel)
theorem dX12_keys_105 : decode cX12_keys 105 = .ok (.iastore, 1) := oc_79 (by decide +kernel)
theorem dX12_keys_106 : decode cX12_keys 106 = .ok (.aload_n 0, 1) := oc_42 (by decide +kernel)
theorem dX12_keys_107 : decode cX12_keys 107 = .ok (.getfield 7, 3) := oc_180 (a := 0) (b := 7) (by decide +kernel)
theorem dX12_keys_110 : decode cX12_keys 110 = .ok (.iload_n 1, 1) := oc_27 (by decide +kernel)
theorem dX12_keys_111 : decode cX12_keys 111 = .ok (.iconst 4, 1) := oc_7 (by decide +kernel)
theorem dX12_keys_112 : decode cX12_keys 112 = .ok (.iadd, 1) := oc_96 (by decide +kernel)
theorem dX12_keys_113 : decode cX12_keys 113 = .ok (.dup2, 1) := oc_92 (by decide +kernel)
theorem dX12_keys_114 : decode cX12_keys 114 = .ok (.iaload, 1) := oc_46 (by decide +kernel)
theorem dX12_keys_115 : decode cX12_keys 115 = .ok (.iconst 1, 1) := oc_4 (by decide +kernel)
theorem dX12_keys_116 : decode cX12_keys 116 = .ok (.iadd, 1) := oc_96 (by decide +kernel)
theorem dX12_keys_117 : decode cX12_keys 117 = .ok (.iastore, 1) := oc_79 (by decide +kernel)
theorem dX12_keys_118 : decode cX12_keys 118 = .ok (.aload_n 0, 1) := oc_42 (by decide +kernel)
theorem dX12_keys_119 : decode cX12_keys 119 = .ok (.invokevirtual 196, 3) := oc_182 (a := 0) (b := 196) (by decide +kernel)
theorem dX12_keys_122 : decode cX12_keys 122 = .ok (.aload_n 0, 1) := oc_42 (by decide +kernel)
theorem dX12_keys_123 : decode cX12_keys 123 = .ok (.getfield 143, 3) := oc_180 (a := 0) (b := 143) (by decide +kernel)
theorem dX12_keys_126 : decode cX12_keys 126 = .ok (.bipush 44, 2) := oc_16 (a := 44) (by decide +kernel)
theorem dX12_keys_128 : decode cX12_keys 128 = .ok (.if_icmp .ne 7, 3) := oc_160 (a := 0) (b := 7) (by decide +kernel)
theorem dX12_keys_135 : decode cX12_keys 135 = .ok (.iconst 0, 1) := oc_3 (by decide +kernel)
theorem dX12_keys_136 : decode cX12_keys 136 = .ok (.istore_n 2, 1) := oc_61 (by decide +kernel)
theorem dX12_keys_137 : decode cX12_keys 137 = .ok (.iload_n 2, 1) := oc_28 (by decide +kernel)
theorem dX12_keys_138 : decode cX12_keys 138 = .ok (.ifCond .eq 7, 3) := oc_153 (a := 0) (b := 7) (by decide +kernel)
theorem dX12_keys_145 : decode cX12_keys 145 = .ok (.goto (-134), 3) := oc_167 (a := 255) (b := 122) (by decide +kernel)
theorem dX12_keys_131 : decode cX12_keys 131 = .ok (.iconst 1, 1) := oc_4 (by decide +kernel)
theorem dX12_keys_132 : decode cX12_keys 132 = .ok (.goto 4, 3) := oc_167 (a := 0) (b := 4) (by decide +kernel)
theorem dX12_keys_141 : decode cX12_keys 141 = .ok (.aload_n 0, 1) := oc_42 (by decide +kernel)
theorem dX12_keys_142 : decode cX12_keys 142 = .ok (.invokevirtual 196, 3) := oc_182 (a := 0) (b := 196) (by decide +kernel)
theorem dX12_keys_70 : decode cX12_keys 70 = .ok (.iconst 1, 1) := oc_4 (by decide +kernel)
theorem dX12_keys_71 : decode cX12_keys 71 = .ok (.ireturn, 1) := oc_172 (by decide +kernel)
theorem dX12_keys_41 : decode cX12_keys 41 = .ok (.aload_n 0, 1) := oc_42 (by decide +kernel)
theorem dX12_keys_42 : decode cX12_keys 42 = .ok (.getfield 7, 3) := oc_180 (a := 0) (b := 7) (by decide +kernel)
theorem dX12_keys_45 : decode cX12_keys 45 = .ok (.iload_n 1, 1) := oc_27 (by decide +kernel)
theorem dX12_keys_46 : decode cX12_keys 46 = .ok (.iconst 4, 1) := oc_7 (by decide +kernel)
theorem dX12_keys_47 : decode cX12_keys 47 = .ok (.iadd, 1) := oc_96 (by decide +kernel)
theorem dX12_keys_48 : decode cX12_keys 48 = .ok (.iaload, 1) := oc_46 (by decide +kernel)
theorem dX12_keys_49 : decode cX12_keys 49 = .ok (.iconst 4, 1) := oc_7 (by decide +kernel)
theorem dX12_keys_50 : decode cX12_keys 50 = .ok (.if_icmp .ne 5, 3) := oc_160 (a := 0) (b := 5) (by decide +kernel)
theorem dX12_keys_53 : decode cX12_keys 53 = .ok (.iconst 5, 1) := oc_8 (by decide +kernel)
theorem dX12_keys_54 : decode cX12_keys 54 = .ok (.ireturn, 1) := oc_172 (by decide +kernel)
theorem dX12_keys_24 : decode cX12_keys 24 = .ok (.iconst 1, 1) := oc_4 (by decide +kernel)
theorem dX12_keys_25 : decode cX12_keys 25 = .ok (.goto 4, 3) := oc_167 (a := 0) (b := 4) (by decide +kernel)
theorem dX12_keys_59 : decode cX12_keys 59 = .ok (.aload_n 0, 1) := oc_42 (by decide +kernel)
theorem dX12_keys_60 : decode cX12_keys 60 = .ok (.invokevirtual 196, 3) := oc_182 (a := 0) (b := 196) (by decide +kernel)
theorem dX12_keys_92 : decode cX12_keys 92 = .ok (.iconst (-1), 1) := oc_2 (by decide +kernel)
theorem dX12_keys_93 : decode cX12_keys 93 = .ok (.aload_n 0, 1) := oc_42 (by decide +kernel)
theorem dX12_keys_94 : decode cX12_keys 94 = .ok (.invokevirtual 192, 3) := oc_182 (a := 0) (b := 192) (by decide +kernel)
theorem dX12_keys_97 : decode cX12_keys 97 = .ok (.isub, 1) := oc_100 (by decide +kernel)
theorem dX12_keys_98 : decode cX12_keys 98 = .ok (.goto 7, 3) := oc_167 (a := 0) (b := 7) (by decide +kernel)
set_option maxRecDepth 100000 in
def g_X12_keys_L11 (a0 : Int32) (rj : Nat → Nat → Int64) (rq : Nat → Nat → Option Nat) : Nat → (Int32) → (Nat → Int32) → (Nat → Int64) → (Nat → Nat → Int32) → Int32 × vM
  | 0, x_1222, I_1223, J_1224, ri_1225 => ((0 : Int32), I_1223, J_1224, ri_1225, rj, rq)
  | n_1530 + 1, x_1222, I_1223, J_1224, ri_1225 => (if x_1222 = (0 : Int32) then ((0 : Int32), I_1223, J_1224, ri_1225, rj, rq) else (ap1 (I_1223 393) fun (y_1550 : Int32) => (if (y_1550) = (45 : Int32) then (ap1 (a0 + (4 : Int32)) fun (x_1763 : Int32) => (ap1 (ri_1225 384 (x_1763).toNatClampNeg) fun (x_1765 : Int32) => (if x_1765 = (4 : Int32) then ((5 : Int32), I_1223, J_1224, ri_1225, rj, rq) else (bnV (g_X12_nextToken_x I_1223 J_1224 ri_1225 rj rq) fun (I_1779 : Nat → Int32) (J_1780 : Nat → Int64) (_ : Nat → Nat → Int32) (_ : Nat → Nat → Int64) (_ : Nat → Nat → Option Nat) => (bnI (g_X12_nameOf_d I_1779 J_1780 ri_1225 rj rq) fun (x_1791 : Int32) (_ : Nat → Int32) (_ : Nat → Int64) (_ : Nat → Nat → Int32) (_ : Nat → Nat → Int64) (_ : Nat → Nat → Option Nat) => (if (0 : Int32) ≤ x_1791 then (ap1 (a0 + (5 : Int32)) fun (x_1806 : Int32) => (ap1 (a0 + (4 : Int32)) fun (x_1808 : Int32) => (ap1 (ri_1225 384 (x_1808).toNatClampNeg) fun (x_1810 : Int32) => (ap1 (x_1806 + x_1810) fun (x_1814 : Int32) => (bnI (g_X12_nameOf_d I_1779 J_1780 ri_1225 rj rq) fun (x_1817 : Int32) (_ : Nat → Int32) (_ : Nat → Int64) (_ : Nat → Nat → Int32) (_ : Nat → Nat → Int64) (_ : Nat → Nat → Option Nat) => (ap1 ((-1 : Int32) - x_1817) fun (x_1825 : Int32) => (ap1 (va_up ri_1225 384 (upd (ri_1225 384) (x_1814).toNatClampNeg x_1825)) fun (r_1827 : Nat → Nat → Int32) => (ap1 (a0 + (4 : Int32)) fun (x_1828 : Int32) => (ap1 (r_1827 384 (x_1828).toNatClampNeg) fun (x_1830 : Int32) => (ap1 (x_1830 + (1 : Int32)) fun (x_1833 : Int32) => (ap1 (va_up r_1827 384 (upd (r_1827 384) (x_1828).toNatClampNeg x_1833)) fun (r_1835 : Nat → Nat → Int32) => (bnV (g_X12_nextToken_x I_1779 J_1780 r_1835 rj rq) fun (I_1839 : Nat → Int32) (J_1840 : Nat → Int64) (_ : Nat → Nat → Int32) (_ : Nat → Nat → Int64) (_ : Nat → Nat → Option Nat) => (ap1 (I_1839 393) fun (y_1851 : Int32) => (if (y_1851) = (44 : Int32) then (bnV (g_X12_nextToken_x I_1839 J_1840 r_1835 rj rq) fun (I_1864 : Nat → Int32) (J_1865 : Nat → Int64) (_ : Nat → Nat → Int32) (_ : Nat → Nat → Int64) (_ : Nat → Nat → Option Nat) => ((g_X12_keys_L11 a0 rj rq n_1530) (1 : Int32) I_1864 J_1865 r_1835)) else ((g_X12_keys_L11 a0 rj rq n_1530) (0 : Int32) I_1839 J_1840 r_1835))))))))))))))) else ((1 : Int32), I_1779, J_1780, ri_1225, rj, rq))))))) else (bnI (g_X12_nameOf_d I_1223 J_1224 ri_1225 rj rq) fun (x_1557 : Int32) (_ : Nat → Int32) (_ : Nat → Int64) (_ : Nat → Nat → Int32) (_ : Nat → Nat → Int64) (_ : Nat → Nat → Option Nat) => (if x_1557 < (0 : Int32) then (bnI (g_X12_nameOf_d I_1223 J_1224 ri_1225 rj rq) fun (x_1573 : Int32) (_ : Nat → Int32) (_ : Nat → Int64) (_ : Nat → Nat → Int32) (_ : Nat → Nat → Int64) (_ : Nat → Nat → Option Nat) => (if (0 : Int32) ≤ x_1573 then (ap1 (a0 + (5 : Int32)) fun (x_1588 : Int32) => (ap1 (a0 + (4 : Int32)) fun (x_1590 : Int32) => (ap1 (ri_1225 384 (x_1590).toNatClampNeg) fun (x_1592 : Int32) => (ap1 (x_1588 + x_1592) fun (x_1595 : Int32) => (bnI (g_X12_nameOf_d I_1223 J_1224 ri_1225 rj rq) fun (x_1598 : Int32) (_ : Nat → Int32) (_ : Nat → Int64) (_ : Nat → Nat → Int32) (_ : Nat → Nat → Int64) (_ : Nat → Nat → Option Nat) => (ap1 (va_up ri_1225 384 (upd (ri_1225 384) (x_1595).toNatClampNeg x_1598)) fun (r_1606 : Nat → Nat → Int32) => (ap1 (a0 + (4 : Int32)) fun (x_1607 : Int32) => (ap1 (r_1606 384 (x_1607).toNatClampNeg) fun (x_1609 : Int32) => (ap1 (x_1609 + (1 : Int32)) fun (x_1612 : Int32) => (ap1 (va_up r_1606 384 (upd (r_1606 384) (x_1607).toNatClampNeg x_1612)) fun (r_1614 : Nat → Nat → Int32) => (bnV (g_X12_nextToken_x I_1223 J_1224 r_1614 rj rq) fun (I_1619 : Nat → Int32) (J_1620 : Nat → Int64) (_ : Nat → Nat → Int32) (_ : Nat → Nat → Int64) (_ : Nat → Nat → Option Nat) => (ap1 (I_1619 393) fun (y_1631 : Int32) => (if (y_1631) = (44 : Int32) then (bnV (g_X12_nextToken_x I_1619 J_1620 r_1614 rj rq) fun (I_1644 : Nat → Int32) (J_1645 : Nat → Int64) (_ : Nat → Nat → Int32) (_ : Nat → Nat → Int64) (_ : Nat → Nat → Option Nat) => ((g_X12_keys_L11 a0 rj rq n_1530) (1 : Int32) I_1644 J_1645 r_1614)) else ((g_X12_keys_L11 a0 rj rq n_1530) (0 : Int32) I_1619 J_1620 r_1614)))))))))))))) else ((1 : Int32), I_1223, J_1224, ri_1225, rj, rq))) else (ap1 (a0 + (4 : Int32)) fun (x_1660 : Int32) => (ap1 (ri_1225 384 (x_1660).toNatClampNeg) fun (x_1662 : Int32) => (if x_1662 = (4 : Int32) then ((5 : Int32), I_1223, J_1224, ri_1225, rj, rq) else (bnI (g_X12_nameOf_d I_1223 J_1224 ri_1225 rj rq) fun (x_1672 : Int32) (_ : Nat → Int32) (_ : Nat → Int64) (_ : Nat → Nat → Int32) (_ : Nat → Nat → Int64) (_ : Nat → Nat → Option Nat) => (if (0 : Int32) ≤ x_1672 then (ap1 (a0 + (5 : Int32)) fun (x_1687 : Int32) => (ap1 (a0 + (4 : Int32)) fun (x_1689 : Int32) => (ap1 (ri_1225 384 (x_1689).toNatClampNeg) fun (x_1691 : Int32) => (ap1 (x_1687 + x_1691) fun (x_1695 : Int32) => (bnI (g_X12_nameOf_d I_1223 J_1224 ri_1225 rj rq) fun (x_1698 : Int32) (_ : Nat → Int32) (_ : Nat → Int64) (_ : Nat → Nat → Int32) (_ : Nat → Nat → Int64) (_ : Nat → Nat → Option Nat) => (ap1 (va_up ri_1225 384 (upd (ri_1225 384) (x_1695).toNatClampNeg x_1698)) fun (r_1706 : Nat → Nat → Int32) => (ap1 (a0 + (4 : Int32)) fun (x_1707 : Int32) => (ap1 (r_1706 384 (x_1707).toNatClampNeg) fun (x_1709 : Int32) => (ap1 (x_1709 + (1 : Int32)) fun (x_1712 : Int32) => (ap1 (va_up r_1706 384 (upd (r_1706 384) (x_1707).toNatClampNeg x_1712)) fun (r_1714 : Nat → Nat → Int32) => (bnV (g_X12_nextToken_x I_1223 J_1224 r_1714 rj rq) fun (I_1719 : Nat → Int32) (J_1720 : Nat → Int64) (_ : Nat → Nat → Int32) (_ : Nat → Nat → Int64) (_ : Nat → Nat → Option Nat) => (ap1 (I_1719 393) fun (y_1731 : Int32) => (if (y_1731) = (44 : Int32) then (bnV (g_X12_nextToken_x I_1719 J_1720 r_1714 rj rq) fun (I_1744 : Nat → Int32) (J_1745 : Nat → Int64) (_ : Nat → Nat → Int32) (_ : Nat → Nat → Int64) (_ : Nat → Nat → Option Nat) => ((g_X12_keys_L11 a0 rj rq n_1530) (1 : Int32) I_1744 J_1745 r_1714)) else ((g_X12_keys_L11 a0 rj rq n_1530) (0 : Int32) I_1719 J_1720 r_1714)))))))))))))) else ((1 : Int32), I_1223, J_1224, ri_1225, rj, rq)))))))))))
set_option maxRecDepth 100000 in
theorem g_X12_keys_L11_e {a0 : Int32} {rj : Nat → Nat → Int64} {rq : Nat → Nat → Option Nat} {n_1530 : Nat} {x_1222 : Int32} {I_1223 : Nat → Int32} {J_1224 : Nat → Int64} {ri_1225 : Nat → Nat → Int32} : g_X12_keys_L11 a0 rj rq (n_1530 + 1) x_1222 I_1223 J_1224 ri_1225 = (if x_1222 = (0 : Int32) then ((0 : Int32), I_1223, J_1224, ri_1225, rj, rq) else (ap1 (I_1223 393) fun (y_1550 : Int32) => (if (y_1550) = (45 : Int32) then (ap1 (a0 + (4 : Int32)) fun (x_1763 : Int32) => (ap1 (ri_1225 384 (x_1763).toNatClampNeg) fun (x_1765 : Int32) => (if x_1765 = (4 : Int32) then ((5 : Int32), I_1223, J_1224, ri_1225, rj, rq) else (bnV (g_X12_nextToken_x I_1223 J_1224 ri_1225 rj rq) fun (I_1779 : Nat → Int32) (J_1780 : Nat → Int64) (_ : Nat → Nat → Int32) (_ : Nat → Nat → Int64) (_ : Nat → Nat → Option Nat) => (bnI (g_X12_nameOf_d I_1779 J_1780 ri_1225 rj rq) fun (x_1791 : Int32) (_ : Nat → Int32) (_ : Nat → Int64) (_ : Nat → Nat → Int32) (_ : Nat → Nat → Int64) (_ : Nat → Nat → Option Nat) => (if (0 : Int32) ≤ x_1791 then (ap1 (a0 + (5 : Int32)) fun (x_1806 : Int32) => (ap1 (a0 + (4 : Int32)) fun (x_1808 : Int32) => (ap1 (ri_1225 384 (x_1808).toNatClampNeg) fun (x_1810 : Int32) => (ap1 (x_1806 + x_1810) fun (x_1814 : Int32) => (bnI (g_X12_nameOf_d I_1779 J_1780 ri_1225 rj rq) fun (x_1817 : Int32) (_ : Nat → Int32) (_ : Nat → Int64) (_ : Nat → Nat → Int32) (_ : Nat → Nat → Int64) (_ : Nat → Nat → Option Nat) => (ap1 ((-1 : Int32) - x_1817) fun (x_1825 : Int32) => (ap1 (va_up ri_1225 384 (upd (ri_1225 384) (x_1814).toNatClampNeg x_1825)) fun (r_1827 : Nat → Nat → Int32) => (ap1 (a0 + (4 : Int32)) fun (x_1828 : Int32) => (ap1 (r_1827 384 (x_1828).toNatClampNeg) fun (x_1830 : Int32) => (ap1 (x_1830 + (1 : Int32)) fun (x_1833 : Int32) => (ap1 (va_up r_1827 384 (upd (r_1827 384) (x_1828).toNatClampNeg x_1833)) fun (r_1835 : Nat → Nat → Int32) => (bnV (g_X12_nextToken_x I_1779 J_1780 r_1835 rj rq) fun (I_1839 : Nat → Int32) (J_1840 : Nat → Int64) (_ : Nat → Nat → Int32) (_ : Nat → Nat → Int64) (_ : Nat → Nat → Option Nat) => (ap1 (I_1839 393) fun (y_1851 : Int32) => (if (y_1851) = (44 : Int32) then (bnV (g_X12_nextToken_x I_1839 J_1840 r_1835 rj rq) fun (I_1864 : Nat → Int32) (J_1865 : Nat → Int64) (_ : Nat → Nat → Int32) (_ : Nat → Nat → Int64) (_ : Nat → Nat → Option Nat) => ((g_X12_keys_L11 a0 rj rq n_1530) (1 : Int32) I_1864 J_1865 r_1835)) else ((g_X12_keys_L11 a0 rj rq n_1530) (0 : Int32) I_1839 J_1840 r_1835))))))))))))))) else ((1 : Int32), I_1779, J_1780, ri_1225, rj, rq))))))) else (bnI (g_X12_nameOf_d I_1223 J_1224 ri_1225 rj rq) fun (x_1557 : Int32) (_ : Nat → Int32) (_ : Nat → Int64) (_ : Nat → Nat → Int32) (_ : Nat → Nat → Int64) (_ : Nat → Nat → Option Nat) => (if x_1557 < (0 : Int32) then (bnI (g_X12_nameOf_d I_1223 J_1224 ri_1225 rj rq) fun (x_1573 : Int32) (_ : Nat → Int32) (_ : Nat → Int64) (_ : Nat → Nat → Int32) (_ : Nat → Nat → Int64) (_ : Nat → Nat → Option Nat) => (if (0 : Int32) ≤ x_1573 then (ap1 (a0 + (5 : Int32)) fun (x_1588 : Int32) => (ap1 (a0 + (4 : Int32)) fun (x_1590 : Int32) => (ap1 (ri_1225 384 (x_1590).toNatClampNeg) fun (x_1592 : Int32) => (ap1 (x_1588 + x_1592) fun (x_1595 : Int32) => (bnI (g_X12_nameOf_d I_1223 J_1224 ri_1225 rj rq) fun (x_1598 : Int32) (_ : Nat → Int32) (_ : Nat → Int64) (_ : Nat → Nat → Int32) (_ : Nat → Nat → Int64) (_ : Nat → Nat → Option Nat) => (ap1 (va_up ri_1225 384 (upd (ri_1225 384) (x_1595).toNatClampNeg x_1598)) fun (r_1606 : Nat → Nat → Int32) => (ap1 (a0 + (4 : Int32)) fun (x_1607 : Int32) => (ap1 (r_1606 384 (x_1607).toNatClampNeg) fun (x_1609 : Int32) => (ap1 (x_1609 + (1 : Int32)) fun (x_1612 : Int32) => (ap1 (va_up r_1606 384 (upd (r_1606 384) (x_1607).toNatClampNeg x_1612)) fun (r_1614 : Nat → Nat → Int32) => (bnV (g_X12_nextToken_x I_1223 J_1224 r_1614 rj rq) fun (I_1619 : Nat → Int32) (J_1620 : Nat → Int64) (_ : Nat → Nat → Int32) (_ : Nat → Nat → Int64) (_ : Nat → Nat → Option Nat) => (ap1 (I_1619 393) fun (y_1631 : Int32) => (if (y_1631) = (44 : Int32) then (bnV (g_X12_nextToken_x I_1619 J_1620 r_1614 rj rq) fun (I_1644 : Nat → Int32) (J_1645 : Nat → Int64) (_ : Nat → Nat → Int32) (_ : Nat → Nat → Int64) (_ : Nat → Nat → Option Nat) => ((g_X12_keys_L11 a0 rj rq n_1530) (1 : Int32) I_1644 J_1645 r_1614)) else ((g_X12_keys_L11 a0 rj rq n_1530) (0 : Int32) I_1619 J_1620 r_1614)))))))))))))) else ((1 : Int32), I_1223, J_1224, ri_1225, rj, rq))) else (ap1 (a0 + (4 : Int32)) fun (x_1660 : Int32) => (ap1 (ri_1225 384 (x_1660).toNatClampNeg) fun (x_1662 : Int32) => (if x_1662 = (4 : Int32) then ((5 : Int32), I_1223, J_1224, ri_1225, rj, rq) else (bnI (g_X12_nameOf_d I_1223 J_1224 ri_1225 rj rq) fun (x_1672 : Int32) (_ : Nat → Int32) (_ : Nat → Int64) (_ : Nat → Nat → Int32) (_ : Nat → Nat → Int64) (_ : Nat → Nat → Option Nat) => (if (0 : Int32) ≤ x_1672 then (ap1 (a0 + (5 : Int32)) fun (x_1687 : Int32) => (ap1 (a0 + (4 : Int32)) fun (x_1689 : Int32) => (ap1 (ri_1225 384 (x_1689).toNatClampNeg) fun (x_1691 : Int32) => (ap1 (x_1687 + x_1691) fun (x_1695 : Int32) => (bnI (g_X12_nameOf_d I_1223 J_1224 ri_1225 rj rq) fun (x_1698 : Int32) (_ : Nat → Int32) (_ : Nat → Int64) (_ : Nat → Nat → Int32) (_ : Nat → Nat → Int64) (_ : Nat → Nat → Option Nat) => (ap1 (va_up ri_1225 384 (upd (ri_1225 384) (x_1695).toNatClampNeg x_1698)) fun (r_1706 : Nat → Nat → Int32) => (ap1 (a0 + (4 : Int32)) fun (x_1707 : Int32) => (ap1 (r_1706 384 (x_1707).toNatClampNeg) fun (x_1709 : Int32) => (ap1 (x_1709 + (1 : Int32)) fun (x_1712 : Int32) => (ap1 (va_up r_1706 384 (upd (r_1706 384) (x_1707).toNatClampNeg x_1712)) fun (r_1714 : Nat → Nat → Int32) => (bnV (g_X12_nextToken_x I_1223 J_1224 r_1714 rj rq) fun (I_1719 : Nat → Int32) (J_1720 : Nat → Int64) (_ : Nat → Nat → Int32) (_ : Nat → Nat → Int64) (_ : Nat → Nat → Option Nat) => (ap1 (I_1719 393) fun (y_1731 : Int32) => (if (y_1731) = (44 : Int32) then (bnV (g_X12_nextToken_x I_1719 J_1720 r_1714 rj rq) fun (I_1744 : Nat → Int32) (J_1745 : Nat → Int64) (_ : Nat → Nat → Int32) (_ : Nat → Nat → Int64) (_ : Nat → Nat → Option Nat) => ((g_X12_keys_L11 a0 rj rq n_1530) (1 : Int32) I_1744 J_1745 r_1714)) else ((g_X12_keys_L11 a0 rj rq n_1530) (0 : Int32) I_1719 J_1720 r_1714)))))))))))))) else ((1 : Int32), I_1223, J_1224, ri_1225, rj, rq))))))))))) := rfl
set_option maxRecDepth 100000 in
def g_X12_keys (a0 : Int32) (I : Nat → Int32) (J : Nat → Int64) (ri : Nat → Nat → Int32) (rj : Nat → Nat → Int64) (rq : Nat → Nat → Option Nat) : Int32 × vM := (ap1 (a0 + (4 : Int32)) fun (x_2 : Int32) => (ap1 (va_up ri 384 (upd (ri 384) (x_2).toNatClampNeg (0 : Int32))) fun (r_4 : Nat → Nat → Int32) => (ap1 (I 391) fun (y_1880 : Int32) => (ap1 (I 393) fun (y_1881 : Int32) => (g_X12_keys_L11 a0 rj rq ((tmM (y_1880).toInt (y_1881).toInt).toNat + 1) (1 : Int32) I J r_4)))))
set_option maxRecDepth 100000 in
theorem g_X12_keys_e {a0 : Int32} {I : Nat → Int32} {J : Nat → Int64} {ri : Nat → Nat → Int32} {rj : Nat → Nat → Int64} {rq : Nat → Nat → Option Nat} : g_X12_keys a0 I J ri rj rq = (ap1 (a0 + (4 : Int32)) fun (x_2 : Int32) => (ap1 (va_up ri 384 (upd (ri 384) (x_2).toNatClampNeg (0 : Int32))) fun (r_4 : Nat → Nat → Int32) => (ap1 (I 391) fun (y_1880 : Int32) => (ap1 (I 393) fun (y_1881 : Int32) => (g_X12_keys_L11 a0 rj rq ((tmM (y_1880).toInt (y_1881).toInt).toNat + 1) (1 : Int32) I J r_4))))) := rfl
set_option maxHeartbeats 4000000 in
set_option maxRecDepth 100000 in
theorem s_X12_keys (l : Launch) (D : va_G) (t : pq_T) (σ : pq_S) (I : Nat → Nat → Int32) (J : Nat → Nat → Int64) (ri : Nat → Nat → Int32) (rj : Nat → Nat → Int64) (rq : Nat → Nat → Option Nat) (sz : Nat) (tg : Nat → Nat) (hSH : SH σ tg) (hG0 : GT tg I ri) (this : Nat) (a0 : Int32) (hL_this : this ∈ σ.1) (hK_this : σ.2.1 this = 12) (this_a : Nat) (hR_this_a : σ.2.2.1 384 this = some this_a) (hL_this_a : this_a ∈ σ.1) (hK_this_a : σ.2.1 this_a = 13) (hN_this_a : σ.2.2.2 this_a = 12720) (hT_this_a : tg this_a = 384) (hc : a0.toInt = 3721 + 900 * (ri this_a 6).toInt + 12 * (I 397 this).toInt ∧ 0 ≤ (I 397 this).toInt ∧ (I 397 this).toInt ≤ 19 ∧ 0 ≤ (ri this_a 6).toInt ∧ (ri this_a 6).toInt ≤ 9) : MetI l yX12_keys (wa yX12_keys cX12_keys 4 (some .int)) ({ frames := 4, cells := 0, slots := 0, locals := 89 }) [.ref this, .int a0] D t σ (I, J, ri, rj, rq) sz 0 0 (fun (r : Int32) (u : pq_S × pq_M) => ∃ I' : Nat → Nat → Int32, ∃ J' : Nat → Nat → Int64, ∃ ri' : Nat → Nat → Int32, u = (σ, I', J', ri', rj, rq) ∧ GM [1914, 1915, 1916, 1917, 1918, 391, 392, 393] tg σ I ri I' ri' rq ∧ ((I 391 this).toInt ≤ (I' 391 this).toInt) ∧ (∀ j : Nat, (j : Int) < a0.toInt + 4 ∨ a0.toInt + 12 ≤ (j : Int) → ri' this_a j = ri this_a j) ∧ (tmM (I' 391 this).toInt (I' 393 this).toInt ≤ tmM (I 391 this).toInt (I 393 this).toInt) ∧ g_X12_keys a0 (vI 12 σ this I) (vJ 12 σ this J) (vR 12 σ this ri) (vL 12 σ this rj) (vQ 12 σ this rq) = (r, (vI 12 σ this I'), (vJ 12 σ this J'), (vR 12 σ this ri'), (vL 12 σ this rj), (vQ 12 σ this rq)) ∧ FR 12 tg σ this (I, J, ri, rj, rq) (I', J', ri', rj, rq) ∧ rg r 0 5) := by
  refine Met.ofW (cc := cX12_keys) (maxL := 4) (ret := (some .int)) (by decide) rfl ?_
  intro p e s m args below meth c s₁ B hml hv
  obtain ⟨rfl, hsz, hP, hK, hD0, hN⟩ := hv
  have hx := B.exec
  have hb := B.bytes
  have hr := B.returns
  have hts := atoms_spec (ws := (wa yX12_keys cX12_keys 4 (some .int))) B.pre
  have hown : s.vm.findClass RX12 = some m.cls := findClass_of_methodNamed B.named
  have hlocks := B.notSynchronized
  subst hsz
  have hD : va_D (pq_B t σ (I, J, ri, rj, rq) s.heap.size) (pq_P t σ (I, J, ri, rj, rq)) := hD0.self
  generalize hAe : pq_B t σ (I, J, ri, rj, rq) s.heap.size = A at hD ⊢
  have hA : ∀ q : Nat, s.heap.size ≤ q → A q := fun q h => by rw [← hAe]; exact Or.inr h
  have hS : va_S A s.heap s.heap [] := va_S.rf
  have hG : GM [1914, 1915, 1916, 1917, 1918, 391, 392, 393] tg σ I ri I ri rq := ⟨hG0, fun _ _ _ => rfl, fun _ _ _ _ _ => rfl, fun _ _ _ _ _ _ => rfl⟩
  have hl := lv_entry ([.ref this, .int a0]) (n := 4) (Nat.le_of_ble_eq_true rfl)
  rw [lg_entry_eq]
  generalize (lg_sl ([.ref this, .int a0]) ++ List.replicate (4 - (lg_sl ([.ref this, .int a0])).length) Slot.unset).toArray = ls at hl ⊢
  have hl : lv_has ls 4 [(0, .ref this), (1, .int a0)] := hl
  refine q_gen (fun Q hQ => ?_)
  have go : ∀ (H : Heap) (locs : List Loc) (ls : Array Slot), va_P D vwCl (pq_P t σ (I, J, ri, rj, rq)) H → va_D A (pq_P t σ (I, J, ri, rj, rq)) → va_S A s.heap H locs → lv_has ls 4 [(0, .ref this), (1, .int a0)] → W p l e ({ frames := 4, cells := 0, slots := 0, locals := 89 } : Room) s m (List.toArray ([.ref this, .int a0] : List Value)) below meth c H locs 0 0 Q (F0 m 0 ls []) := by
    intro H locs ls hP hD hS hl
    have hO_this : this = vo σ 12 this := rfl
    have hVT : VT 12 σ tg this := vt_12 hSH hL_this hK_this
    have hFr : FR 12 tg σ this (I, J, ri, rj, rq) (I, J, ri, rj, rq) := fr_rf
    have hO_this_a : this_a = vrow σ 384 this := vo_k (c := 12) hO_this hR_this_a
    obtain ⟨F, hF0⟩ : ∃ F, F = g_X12_keys a0 (vI 12 σ this I) (vJ 12 σ this J) (vR 12 σ this ri) (vL 12 σ this rj) (vQ 12 σ this rq) := ⟨_, rfl⟩
    have hF := hF0.trans g_X12_keys_e
    have ce6 := clampE (ri this_a 6)
    have ceC := clampE (I 397 this)
    have ceA := clampE a0
    have h_1 : rg a0 3721 12049 := ⟨by omega, by omega⟩
    have uh_1 := h_1.1
    have vh_1 := h_1.2
    refine lv_aload_n hx hb dX12_keys_0 rfl (lv_at hl 0 rfl) ?_
    refine pg_f (v := .ref this_a) (C := RX12) (T := TX12) (N := 31) hx hb hts (tw_i inlX12) hown hK hP hL_this hK_this (by decide) rfl 0 (by decide) (hts _ (tw_c tw_176)) (pq_hv rfl hR_this_a) dX12_keys_1 ?_
    refine lv_iload_n hx hb dX12_keys_4 rfl (lv_at hl 1 rfl) ?_
    refine lv_iconst (v := 4) hx hb dX12_keys_5 (by decide) ?_
    refine lv_iadd hx hb dX12_keys_6 ?_
    refine lv_topi (fun x_2 ex_2 => ?_)
    replace hF := hF.trans (ap_n ex_2)
    have h_3 : rg x_2 3725 12053 := rg_of_eq ex_2 (rg_add h_1 (rg_k (4 : Int32) 4 rfl) (by decide))
    have uh_3 := h_3.1
    have vh_3 := h_3.2
    have tx_2 : (x_2).toInt = (a0).toInt + 4 := by rw [ex_2]; exact i_add_rg (a2 := (a0).toInt) (b2 := 4) rfl rfl h_1 (rg_k (4 : Int32) 4 rfl) (by decide)
    refine lv_iconst (v := 0) hx hb dX12_keys_7 (by decide) ?_
    refine pt_i hx hb hK hP hD hS hL_this_a hK_this_a hN_this_a (rg_in h_3 (by decide)) dX12_keys_8 (fun r_4 H locs er_4 hP hD hS => ?_)
    replace hFr := fr_R hFr hO_this_a (by decide) er_4
    replace hF := hF.trans (ap_n (vR_st hVT hO_this_a (by decide) er_4))
    have hG := GM.wt hG hT_this_a (by decide) er_4 (zn_tc (t := (ri this_a 6).toNatClampNeg) (c := (I 397 this).toNatClampNeg) (k := 4) (by have z_i := clampE x_2; have z_0 := clampE (ri this_a 6); have z_1 := clampE (I 397 this); omega) (rg_cl1 ⟨hc.2.2.2.1, hc.2.2.2.2⟩ (by decide)) (rg_cl1 ⟨hc.2.1, hc.2.2.1⟩ (by decide)) (by decide)) rfl (rg_w (rg_k (0 : Int32) 0 rfl) (by decide)) (by have z6 := congrArg Int32.toInt (hG.2.2.1 this_a hT_this_a 6 (by decide) (by decide)); have z_i := clampE x_2; omega) (by decide)
    refine lv_iconst (v := 1) hx hb dX12_keys_9 (by decide) ?_
    refine lv_istore_n (lv' := [(2, .int 1), (0, .ref this), (1, .int a0)]) hx hb dX12_keys_10 rfl hl (by decide) rfl (fun ls hl => ?_)
    have L_1531 : ∀ (n_1530 : Nat) (x_1222 : Int32) (I_1223 : Nat → Nat → Int32) (J_1224 : Nat → Nat → Int64) (ri_1225 : Nat → Nat → Int32) (H : Heap) (locs : List Loc) (ls : Array Slot), rg x_1222 0 1 → ((I 391 this).toInt ≤ (I_1223 391 this).toInt) → (∀ j : Nat, (j : Int) < a0.toInt + 4 ∨ a0.toInt + 12 ≤ (j : Int) → ri_1225 this_a j = ri this_a j) → (tmM (I_1223 391 this).toInt (I_1223 393 this).toInt ≤ tmM (I 391 this).toInt (I 393 this).toInt) → (tmM (I_1223 391 this).toInt (I_1223 393 this).toInt).toNat < n_1530 → F = g_X12_keys_L11 a0 (vL 12 σ this rj) (vQ 12 σ this rq) n_1530 x_1222 (vI 12 σ this I_1223) (vJ 12 σ this J_1224) (vR 12 σ this ri_1225) → FR 12 tg σ this (I, J, ri, rj, rq) (I_1223, J_1224, ri_1225, rj, rq) → GM [1914, 1915, 1916, 1917, 1918, 391, 392, 393] tg σ I ri I_1223 ri_1225 rq → va_P D vwCl (pq_P t σ (I_1223, J_1224, ri_1225, rj, rq)) H → va_D A (pq_P t σ (I_1223, J_1224, ri_1225, rj, rq)) → va_S A s.heap H locs → lv_has ls 4 [(0, .ref this), (1, .int a0), (2, .int x_1222)] → W p l e ({ frames := 4, cells := 0, slots := 0, locals := 89 } : Room) s m (List.toArray ([.ref this, .int a0] : List Value)) below meth c H locs 0 0 Q (F0 m 11 ls []) := by
      intro n_1530
      induction n_1530 with
      | zero => intro x_1222 I_1223 J_1224 ri_1225 H locs ls h_1537 hrel_1538 hrel_1539 hrel_1540 hm_1529 hF hFr hG hP hD hS hl; exact absurd hm_1529 (Nat.not_lt_zero _)
      | succ n_1530 ih_1532 =>
        intro x_1222 I_1223 J_1224 ri_1225 H locs ls h_1537 hrel_1538 hrel_1539 hrel_1540 hm_1529 hF hFr hG hP hD hS hl
        have uh_1537 := h_1537.1
        have vh_1537 := h_1537.2
        replace hF := hF.trans g_X12_keys_L11_e
        refine lv_iload_n hx hb dX12_keys_11 rfl (lv_at hl 2 rfl) ?_
        refine lv_if_eq (tgt := 148) hx hb dX12_keys_12 (by decide) (fun c_1541 => ?_) (fun c_1541 => ?_)
        · replace hF := hF.trans (if_pos c_1541)
          have tc_1546 : (x_1222).toInt = 0 := congrArg Int32.toInt c_1541
          have h_1547 : rg x_1222 0 0 := rg_and h_1537 (rg_of_eq c_1541 (rg_k (0 : Int32) 0 rfl)) (by decide)
          have uh_1547 := h_1547.1
          have vh_1547 := h_1547.2
          refine lv_iconst (v := 0) hx hb dX12_keys_148 (by decide) ?_
          subst hQ
          exact W.iret (v := 0) hx hb hr (fun t1 ht hW => ⟨⟨0, (σ, I_1223, J_1224, ri_1225, rj, rq), rfl, ⟨I_1223, J_1224, ri_1225, rfl, hG, (by omega), hrel_1539, hrel_1540, (hF0.symm.trans hF), hFr, (rg_w (rg_k (0 : Int32) 0 rfl) (by decide))⟩, by rw [ht]; exact hP, va_K.moved hW.alike hK, hD⟩, hS.F ht⟩) hS.2.2 dX12_keys_149
        · replace hF := hF.trans (if_neg c_1541)
          have tc_1548 : (x_1222).toInt ≠ 0 := fun q => c_1541 (Int32.toInt_inj.mp q)
          have h_1549 : rg x_1222 1 1 := rg_ne c_1541 h_1537 0 rfl (by decide)
          have uh_1549 := h_1549.1
          have vh_1549 := h_1549.2
          refine lv_aload_n hx hb dX12_keys_15 rfl (lv_at hl 0 rfl) ?_
          refine pg_f (v := .int (I_1223 393 this)) (C := RX12) (T := TX12) (N := 31) hx hb hts (tw_i inlX12) hown hK hP hL_this hK_this (by decide) rfl 9 (by decide) (hts _ (tw_c tw_831)) rfl dX12_keys_16 ?_
          replace hF := hF.trans (ap_n (vI_e (f := 393) hO_this (by decide)))
          refine lv_bipush (v := 45) hx hb dX12_keys_19 (by decide) ?_
          refine lv_icmp_ne (tgt := 28) hx hb dX12_keys_21 (by decide) (fun c_1551 => ?_) (fun c_1551 => ?_)
          · replace hF := hF.trans (if_neg c_1551)
            have tc_1555 : (I_1223 393 this).toInt ≠ 45 := fun q => c_1551 (Int32.toInt_inj.mp q)
            refine lv_iconst (v := 0) hx hb dX12_keys_28 (by decide) ?_
            refine lv_istore_n (lv' := [(3, .int 0), (0, .ref this), (1, .int a0), (2, .int x_1222)]) hx hb dX12_keys_29 rfl hl (by decide) rfl (fun ls hl => ?_)
            refine lv_iload_n hx hb dX12_keys_30 rfl (lv_at hl 0 rfl) ?_
            refine lv_if_ne (tgt := 41) hx hb dX12_keys_31 (by decide) (fun c_1556 => absurd c_1556 (by decide)) (fun c_1556 => ?_)
            refine lv_aload_n hx hb dX12_keys_34 rfl (lv_at hl 1 rfl) ?_
            refine pk_i (va_runV (As := []) (rest := []) ⟨hx, hb, hml, hown, hts⟩ (s_X12_nameOf_d l D t σ I_1223 J_1224 ri_1225 rj rq H.size tg hSH hG.1 this hL_this hK_this) (cwV 0 hts (tw_V tw_921 tw_922 tw_923 tw_5 tw_924) rfl rfl rfl cv_yX12_nameOf_0 ⟨Nat.le_of_ble_eq_true rfl, Nat.le_of_ble_eq_true rfl⟩) ⟨pq_blind, pq_recv hK hP hL_this hK_this (by decide) rfl, pq_pre hK hN hP hD⟩ rfl rfl hl.1 rfl (lv_room (Nat.le_of_ble_eq_true rfl)) dX12_keys_35 ⟨Nat.le_of_ble_eq_true rfl, Nat.le_of_ble_eq_true rfl⟩) hD hS hA (fun x_1557 σ1 μ1 H locs hw_1558 hP hD hS => ?_)
            obtain ⟨hu_1559, hp_1562, hfn_1563, hr_1561⟩ := hw_1558
            obtain ⟨hu_1559a, hu_1559b⟩ := Prod.mk.inj hu_1559
            rw [hu_1559a, hu_1559b] at hP hD
            replace hF := hF.trans (bn_n hfn_1563)
            refine lv_if_lt (tgt := 55) hx hb dX12_keys_38 (by decide) (fun c_1565 => ?_) (fun c_1565 => ?_)
            · replace hF := hF.trans (if_pos c_1565)
              have tc_1570 : (x_1557).toInt < 0 := Int32.lt_iff_toInt_lt.mp c_1565
              have h_1571 : rg x_1557 (-1) (-1) := rg_lt1 c_1565 hr_1561 (rg_k (0 : Int32) 0 rfl) (by decide)
              have uh_1571 := h_1571.1
              have vh_1571 := h_1571.2
              refine lv_iload_n hx hb dX12_keys_55 rfl (lv_at hl 0 rfl) ?_
              refine lv_if_eq (tgt := 63) hx hb dX12_keys_56 (by decide) (fun c_1572 => ?_) (fun c_1572 => absurd c_1572 (by decide))
              refine lv_aload_n hx hb dX12_keys_63 rfl (lv_at hl 1 rfl) ?_
              refine pk_i (va_runV (As := []) (rest := []) ⟨hx, hb, hml, hown, hts⟩ (s_X12_nameOf_d l D t σ I_1223 J_1224 ri_1225 rj rq H.size tg hSH hG.1 this hL_this hK_this) (cwV 0 hts (tw_V tw_921 tw_922 tw_923 tw_5 tw_924) rfl rfl rfl cv_yX12_nameOf_0 ⟨Nat.le_of_ble_eq_true rfl, Nat.le_of_ble_eq_true rfl⟩) ⟨pq_blind, pq_recv hK hP hL_this hK_this (by decide) rfl, pq_pre hK hN hP hD⟩ rfl rfl hl.1 rfl (lv_room (Nat.le_of_ble_eq_true rfl)) dX12_keys_64 ⟨Nat.le_of_ble_eq_true rfl, Nat.le_of_ble_eq_true rfl⟩) hD hS hA (fun x_1573 σ1 μ1 H locs hw_1574 hP hD hS => ?_)
              obtain ⟨hu_1575, hp_1578, hfn_1579, hr_1577⟩ := hw_1574
              obtain ⟨hu_1575a, hu_1575b⟩ := Prod.mk.inj hu_1575
              rw [hu_1575a, hu_1575b] at hP hD
              replace hF := hF.trans (bn_n hfn_1579)
              refine lv_if_ge (tgt := 72) hx hb dX12_keys_67 (by decide) (fun c_1581 => ?_) (fun c_1581 => ?_)
              · replace hF := hF.trans (if_pos c_1581)
                have tc_1586 : 0 ≤ (x_1573).toInt := Int32.le_iff_toInt_le.mp c_1581
                have h_1587 : rg x_1573 0 5 := rg_le2 c_1581 (rg_k (0 : Int32) 0 rfl) hr_1577 (by decide)
                have uh_1587 := h_1587.1
                have vh_1587 := h_1587.2
                have hk5 : False := hp_1562.2 (by omega) (hp_1578.1 (by omega)).1 (hp_1578.1 (by omega)).2
                refine lv_aload_n hx hb dX12_keys_72 rfl (lv_at hl 1 rfl) ?_
                refine pg_f (v := .ref this_a) (C := RX12) (T := TX12) (N := 31) hx hb hts (tw_i inlX12) hown hK hP hL_this hK_this (by decide) rfl 0 (by decide) (hts _ (tw_c tw_176)) (pq_hv rfl hR_this_a) dX12_keys_73 ?_
                refine lv_iload_n hx hb dX12_keys_76 rfl (lv_at hl 2 rfl) ?_
                refine lv_iconst (v := 5) hx hb dX12_keys_77 (by decide) ?_
                refine lv_iadd hx hb dX12_keys_78 ?_
                refine lv_topi (fun x_1588 ex_1588 => ?_)
                replace hF := hF.trans (ap_n ex_1588)
                have h_1589 : rg x_1588 3726 12054 := rg_of_eq ex_1588 (rg_add h_1 (rg_k (5 : Int32) 5 rfl) (by decide))
                have uh_1589 := h_1589.1
                have vh_1589 := h_1589.2
                have tx_1588 : (x_1588).toInt = (a0).toInt + 5 := by rw [ex_1588]; exact i_add_rg (a2 := (a0).toInt) (b2 := 5) rfl rfl h_1 (rg_k (5 : Int32) 5 rfl) (by decide)
                refine lv_aload_n hx hb dX12_keys_79 rfl (lv_at hl 1 rfl) ?_
                refine pg_f (v := .ref this_a) (C := RX12) (T := TX12) (N := 31) hx hb hts (tw_i inlX12) hown hK hP hL_this hK_this (by decide) rfl 0 (by decide) (hts _ (tw_c tw_176)) (pq_hv rfl hR_this_a) dX12_keys_80 ?_
                refine lv_iload_n hx hb dX12_keys_83 rfl (lv_at hl 2 rfl) ?_
                refine lv_iconst (v := 4) hx hb dX12_keys_84 (by decide) ?_
                refine lv_iadd hx hb dX12_keys_85 ?_
                refine lv_topi (fun x_1590 ex_1590 => ?_)
                replace hF := hF.trans (ap_n ex_1590)
                have h_1591 : rg x_1590 3725 12053 := rg_of_eq ex_1590 (rg_add h_1 (rg_k (4 : Int32) 4 rfl) (by decide))
                have uh_1591 := h_1591.1
                have vh_1591 := h_1591.2
                have tx_1590 : (x_1590).toInt = (a0).toInt + 4 := by rw [ex_1590]; exact i_add_rg (a2 := (a0).toInt) (b2 := 4) rfl rfl h_1 (rg_k (4 : Int32) 4 rfl) (by decide)
                refine pl_i hx hb hK hP hL_this_a hK_this_a hN_this_a (rg_in h_1591 (by decide)) dX12_keys_86 ?_
                refine lv_topi (fun x_1592 ex_1592 => ?_)
                replace hF := hF.trans (ap_n (vR_r hO_this_a (by decide) ex_1592))
                have ex_1592 : x_1592 = ri_1225 this_a (x_1590).toNatClampNeg := ex_1592
                have h_1593 : rg x_1592 0 4 := rg_of_eq ex_1592 (GM.z hG (by rw [hT_this_a]; decide) (zn_tc (t := (ri this_a 6).toNatClampNeg) (c := (I 397 this).toNatClampNeg) (k := 4) (by have z_i := clampE x_1590; have z_0 := clampE (ri this_a 6); have z_1 := clampE (I 397 this); omega) (rg_cl1 ⟨hc.2.2.2.1, hc.2.2.2.2⟩ (by decide)) (rg_cl1 ⟨hc.2.1, hc.2.2.1⟩ (by decide)) (by decide)) rfl)
                have uh_1593 := h_1593.1
                have vh_1593 := h_1593.2
                have h_1594 : rg x_1592 0 3 := hk5.elim
                have uh_1594 := h_1594.1
                have vh_1594 := h_1594.2
                refine lv_iadd hx hb dX12_keys_87 ?_
                refine lv_topi (fun x_1595 ex_1595 => ?_)
                replace hF := hF.trans (ap_n ex_1595)
                have h_1596 : rg x_1595 3726 12057 := rg_of_eq ex_1595 (rg_add h_1589 h_1594 (by decide))
                have uh_1596 := h_1596.1
                have vh_1596 := h_1596.2
                have tx_1595 : (x_1595).toInt = (x_1588).toInt + (x_1592).toInt := by rw [ex_1595]; exact i_add_rg (a2 := (x_1588).toInt) (b2 := (x_1592).toInt) rfl rfl h_1589 h_1594 (by decide)
                refine lv_iload_n hx hb dX12_keys_88 rfl (lv_at hl 0 rfl) ?_
                refine lv_if_eq (tgt := 101) hx hb dX12_keys_89 (by decide) (fun c_1597 => ?_) (fun c_1597 => absurd c_1597 (by decide))
                refine lv_aload_n hx hb dX12_keys_101 rfl (lv_at hl 1 rfl) ?_
                refine pk_i (va_runV (As := []) (rest := [.int x_1595, .ref this_a]) ⟨hx, hb, hml, hown, hts⟩ (s_X12_nameOf_d l D t σ I_1223 J_1224 ri_1225 rj rq H.size tg hSH hG.1 this hL_this hK_this) (cwV 0 hts (tw_V tw_921 tw_922 tw_923 tw_5 tw_924) rfl rfl rfl cv_yX12_nameOf_0 ⟨Nat.le_of_ble_eq_true rfl, Nat.le_of_ble_eq_true rfl⟩) ⟨pq_blind, pq_recv hK hP hL_this hK_this (by decide) rfl, pq_pre hK hN hP hD⟩ rfl rfl hl.1 rfl (lv_room (Nat.le_of_ble_eq_true rfl)) dX12_keys_102 ⟨Nat.le_of_ble_eq_true rfl, Nat.le_of_ble_eq_true rfl⟩) hD hS hA (fun x_1598 σ1 μ1 H locs hw_1599 hP hD hS => ?_)
                obtain ⟨hu_1600, hp_1603, hfn_1604, hr_1602⟩ := hw_1599
                obtain ⟨hu_1600a, hu_1600b⟩ := Prod.mk.inj hu_1600
                rw [hu_1600a, hu_1600b] at hP hD
                replace hF := hF.trans (bn_n hfn_1604)
                refine pt_i hx hb hK hP hD hS hL_this_a hK_this_a hN_this_a (rg_in h_1596 (by decide)) dX12_keys_105 (fun r_1606 H locs er_1606 hP hD hS => ?_)
                replace hFr := fr_R hFr hO_this_a (by decide) er_1606
                replace hF := hF.trans (ap_n (vR_st hVT hO_this_a (by decide) er_1606))
                have hk4 : 0 ≤ (x_1592).toInt ∧ (x_1592).toInt ≤ 3 := ⟨by omega, by omega⟩
                have hG := GM.wth hG hT_this_a (by decide) er_1606 (I 397 this).toNatClampNeg (by omega) (n := (ri this_a 6).toNatClampNeg) (by omega) (k := 5 + (x_1592).toNatClampNeg) (by have z_i := clampE x_1595; have z_k := clampE x_1592; omega) (by have z_k := clampE x_1592; omega) (by have z6 := congrArg Int32.toInt (hG.2.2.1 this_a hT_this_a 6 (by decide) (by decide)); have z_i := clampE x_1595; omega) (by decide)
                refine lv_aload_n hx hb dX12_keys_106 rfl (lv_at hl 1 rfl) ?_
                refine pg_f (v := .ref this_a) (C := RX12) (T := TX12) (N := 31) hx hb hts (tw_i inlX12) hown hK hP hL_this hK_this (by decide) rfl 0 (by decide) (hts _ (tw_c tw_176)) (pq_hv rfl hR_this_a) dX12_keys_107 ?_
                refine lv_iload_n hx hb dX12_keys_110 rfl (lv_at hl 2 rfl) ?_
                refine lv_iconst (v := 4) hx hb dX12_keys_111 (by decide) ?_
                refine lv_iadd hx hb dX12_keys_112 ?_
                refine lv_topi (fun x_1607 ex_1607 => ?_)
                replace hF := hF.trans (ap_n ex_1607)
                have h_1608 : rg x_1607 3725 12053 := rg_of_eq ex_1607 (rg_add h_1 (rg_k (4 : Int32) 4 rfl) (by decide))
                have uh_1608 := h_1608.1
                have vh_1608 := h_1608.2
                have tx_1607 : (x_1607).toInt = (a0).toInt + 4 := by rw [ex_1607]; exact i_add_rg (a2 := (a0).toInt) (b2 := 4) rfl rfl h_1 (rg_k (4 : Int32) 4 rfl) (by decide)
                refine lv_dup2_11 hx hb dX12_keys_113 rfl rfl ?_
                refine pl_i hx hb hK hP hL_this_a hK_this_a hN_this_a (rg_in h_1608 (by decide)) dX12_keys_114 ?_
                refine lv_topi (fun x_1609 ex_1609 => ?_)
                replace hF := hF.trans (ap_n (vR_r hO_this_a (by decide) ex_1609))
                have ex_1609 : x_1609 = r_1606 this_a (x_1607).toNatClampNeg := ex_1609
                have h_1610 : rg x_1609 0 4 := rg_of_eq ex_1609 (GM.z hG (by rw [hT_this_a]; decide) (zn_tc (t := (ri this_a 6).toNatClampNeg) (c := (I 397 this).toNatClampNeg) (k := 4) (by have z_i := clampE x_1607; have z_0 := clampE (ri this_a 6); have z_1 := clampE (I 397 this); omega) (rg_cl1 ⟨hc.2.2.2.1, hc.2.2.2.2⟩ (by decide)) (rg_cl1 ⟨hc.2.1, hc.2.2.1⟩ (by decide)) (by decide)) rfl)
                have uh_1610 := h_1610.1
                have vh_1610 := h_1610.2
                have hkz : (x_1609).toInt = (x_1592).toInt := by rw [show x_1609 = x_1592 from by rw [ex_1609, er_1606, va_up_self, upd_off (by have z0 := clampE x_1607; have z1 := clampE x_1595; have z2 := clampE x_1592; omega), ex_1592]; exact congrArg (ri_1225 this_a) (by have z0 := clampE x_1607; have z1 := clampE x_1590; omega)]
                have h_1611 : rg x_1609 0 3 := ⟨by omega, by omega⟩
                have uh_1611 := h_1611.1
                have vh_1611 := h_1611.2
                refine lv_iconst (v := 1) hx hb dX12_keys_115 (by decide) ?_
                refine lv_iadd hx hb dX12_keys_116 ?_
                refine lv_topi (fun x_1612 ex_1612 => ?_)
                replace hF := hF.trans (ap_n ex_1612)
                have h_1613 : rg x_1612 1 4 := rg_of_eq ex_1612 (rg_add h_1611 (rg_k (1 : Int32) 1 rfl) (by decide))
                have uh_1613 := h_1613.1
                have vh_1613 := h_1613.2
                have tx_1612 : (x_1612).toInt = (x_1609).toInt + 1 := by rw [ex_1612]; exact i_add_rg (a2 := (x_1609).toInt) (b2 := 1) rfl rfl h_1611 (rg_k (1 : Int32) 1 rfl) (by decide)
                refine pt_i hx hb hK hP hD hS hL_this_a hK_this_a hN_this_a (rg_in h_1608 (by decide)) dX12_keys_117 (fun r_1614 H locs er_1614 hP hD hS => ?_)
                replace hFr := fr_R hFr hO_this_a (by decide) er_1614
                replace hF := hF.trans (ap_n (vR_st hVT hO_this_a (by decide) er_1614))
                have hG := GM.wt hG hT_this_a (by decide) er_1614 (zn_tc (t := (ri this_a 6).toNatClampNeg) (c := (I 397 this).toNatClampNeg) (k := 4) (by have z_i := clampE x_1607; have z_0 := clampE (ri this_a 6); have z_1 := clampE (I 397 this); omega) (rg_cl1 ⟨hc.2.2.2.1, hc.2.2.2.2⟩ (by decide)) (rg_cl1 ⟨hc.2.1, hc.2.2.1⟩ (by decide)) (by decide)) rfl (rg_w h_1613 (by decide)) (by have z6 := congrArg Int32.toInt (hG.2.2.1 this_a hT_this_a 6 (by decide) (by decide)); have z_i := clampE x_1607; omega) (by decide)
                refine lv_aload_n hx hb dX12_keys_118 rfl (lv_at hl 1 rfl) ?_
                have hkn_1615 : (I_1223 393 this).toInt ≠ 0 := fun q => absurd (q.symm.trans (hp_1578.1 (by omega)).1) (by decide)
                obtain ⟨w_1616, hR_w_1616, hL_w_1616, hK_w_1616, hN_w_1616, hT_w_1616⟩ := sh_a hSH 387 (ci := 12) (kd := 13) (len := 300) rfl (by decide) hL_this hK_this
                have hO_w_1616 : w_1616 = vrow σ 387 this := vo_k (c := 12) hO_this hR_w_1616
                refine pk_v (va_runV (As := []) (rest := []) ⟨hx, hb, hml, hown, hts⟩ (s_X12_nextToken_x l D t σ I_1223 J_1224 r_1614 rj rq H.size tg hSH hG.1 this hL_this hK_this w_1616 hR_w_1616 hL_w_1616 hK_w_1616 hN_w_1616 hT_w_1616) (cwV 0 hts (tw_V tw_832 tw_833 tw_834 tw_5 tw_835) rfl rfl rfl cv_yX12_nextToken_0 ⟨Nat.le_of_ble_eq_true rfl, Nat.le_of_ble_eq_true rfl⟩) ⟨pq_blind, pq_recv hK hP hL_this hK_this (by decide) rfl, pq_pre hK hN hP hD⟩ rfl rfl hl.1 rfl (lv_room (Nat.le_of_ble_eq_true rfl)) dX12_keys_119 ⟨Nat.le_of_ble_eq_true rfl, Nat.le_of_ble_eq_true rfl⟩) hD hS hA (fun σ1 μ1 H locs hw_1618 hP hD hS => ?_)
                obtain ⟨I_1619, J_1620, hu_1621, hg_1622, hp_1624, hp_1625, hp_1626, hfn_1627, hfr_1628⟩ := hw_1618
                obtain ⟨hu_1621a, hu_1621b⟩ := Prod.mk.inj hu_1621
                rw [hu_1621a, hu_1621b] at hP hD
                replace hF := hF.trans (bv_n hfn_1627)
                replace hFr := fr_tr hFr hfr_1628
                have tt_1629 : (I_1619 391 this).toInt ≤ 300 := by have z := hg_1622.1.1 391 this; exact z.2
                have hG := GM.tr hG hg_1622 (by decide)
                have tt_1630 : (I_1619 397 this).toInt = (I_1223 397 this).toInt := by rw [hg_1622.2.1 397 (by decide) (by decide)]
                refine lv_aload_n hx hb dX12_keys_122 rfl (lv_at hl 1 rfl) ?_
                refine pg_f (v := .int (I_1619 393 this)) (C := RX12) (T := TX12) (N := 31) hx hb hts (tw_i inlX12) hown hK hP hL_this hK_this (by decide) rfl 9 (by decide) (hts _ (tw_c tw_831)) rfl dX12_keys_123 ?_
                replace hF := hF.trans (ap_n (vI_e (f := 393) hO_this (by decide)))
                refine lv_bipush (v := 44) hx hb dX12_keys_126 (by decide) ?_
                refine lv_icmp_ne (tgt := 135) hx hb dX12_keys_128 (by decide) (fun c_1632 => ?_) (fun c_1632 => ?_)
                · replace hF := hF.trans (if_neg c_1632)
                  have tc_1636 : (I_1619 393 this).toInt ≠ 44 := fun q => c_1632 (Int32.toInt_inj.mp q)
                  refine lv_iconst (v := 0) hx hb dX12_keys_135 (by decide) ?_
                  refine lv_istore_n (lv' := [(2, .int 0), (3, .int 0), (0, .ref this), (1, .int a0)]) hx hb dX12_keys_136 rfl hl (by decide) rfl (fun ls hl => ?_)
                  refine lv_iload_n hx hb dX12_keys_137 rfl (lv_at hl 0 rfl) ?_
                  refine lv_if_eq (tgt := 145) hx hb dX12_keys_138 (by decide) (fun c_1637 => ?_) (fun c_1637 => absurd c_1637 (by decide))
                  refine lv_goto (tgt := 11) hx hb dX12_keys_145 (by decide) ?_
                  exact ih_1532 (0 : Int32) I_1619 J_1620 r_1614 _ _ _ (rg_w (rg_k (0 : Int32) 0 rfl) (by decide)) (by have k0 : (0 : Int32).toInt = 0 := rfl; omega) (fun j hj => by rw [er_1614, va_up_self, upd_off (by have z0 := clampE x_1607; omega)]; exact (show ∀ j : Nat, (j : Int) < a0.toInt + 4 ∨ a0.toInt + 12 ≤ (j : Int) → r_1606 this_a j = ri this_a j from (fun j hj => by rw [er_1606, va_up_self, upd_off (by have z0 := clampE x_1595; omega)]; exact (show ∀ j : Nat, (j : Int) < a0.toInt + 4 ∨ a0.toInt + 12 ≤ (j : Int) → ri_1225 this_a j = ri this_a j from hrel_1539) j hj)) j hj) (Int.le_of_lt (Int.lt_of_lt_of_le (tm_lt hkn_1615 hp_1624 hp_1625) hrel_1540)) (tm_ms hm_1529 (tm_lt hkn_1615 hp_1624 hp_1625) (tm_b ((hG.1.1 391 this).2))) hF hFr hG hP hD hS (lv_sub hl [2, 3, 0] rfl)
                · replace hF := hF.trans (if_pos c_1632)
                  have tc_1638 : (I_1619 393 this).toInt = 44 := congrArg Int32.toInt c_1632
                  have h_1639 : rg (I_1619 393 this) 44 44 := rg_and (rg_full _) (rg_of_eq c_1632 (rg_k (44 : Int32) 44 rfl)) (by decide)
                  have uh_1639 := h_1639.1
                  have vh_1639 := h_1639.2
                  refine lv_iconst (v := 1) hx hb dX12_keys_131 (by decide) ?_
                  refine lv_goto (tgt := 136) hx hb dX12_keys_132 (by decide) ?_
                  refine lv_istore_n (lv' := [(2, .int 1), (3, .int 0), (0, .ref this), (1, .int a0)]) hx hb dX12_keys_136 rfl hl (by decide) rfl (fun ls hl => ?_)
                  refine lv_iload_n hx hb dX12_keys_137 rfl (lv_at hl 0 rfl) ?_
                  refine lv_if_eq (tgt := 145) hx hb dX12_keys_138 (by decide) (fun c_1640 => absurd c_1640 (by decide)) (fun c_1640 => ?_)
                  refine lv_aload_n hx hb dX12_keys_141 rfl (lv_at hl 2 rfl) ?_
                  have hkn_1641 : (I_1619 393 this).toInt ≠ 0 := by omega
                  refine pk_v (va_runV (As := []) (rest := []) ⟨hx, hb, hml, hown, hts⟩ (s_X12_nextToken_x l D t σ I_1619 J_1620 r_1614 rj rq H.size tg hSH hG.1 this hL_this hK_this w_1616 hR_w_1616 hL_w_1616 hK_w_1616 hN_w_1616 hT_w_1616) (cwV 0 hts (tw_V tw_832 tw_833 tw_834 tw_5 tw_835) rfl rfl rfl cv_yX12_nextToken_0 ⟨Nat.le_of_ble_eq_true rfl, Nat.le_of_ble_eq_true rfl⟩) ⟨pq_blind, pq_recv hK hP hL_this hK_this (by decide) rfl, pq_pre hK hN hP hD⟩ rfl rfl hl.1 rfl (lv_room (Nat.le_of_ble_eq_true rfl)) dX12_keys_142 ⟨Nat.le_of_ble_eq_true rfl, Nat.le_of_ble_eq_true rfl⟩) hD hS hA (fun σ1 μ1 H locs hw_1643 hP hD hS => ?_)
                  obtain ⟨I_1644, J_1645, hu_1646, hg_1647, hp_1649, hp_1650, hp_1651, hfn_1652, hfr_1653⟩ := hw_1643
                  obtain ⟨hu_1646a, hu_1646b⟩ := Prod.mk.inj hu_1646
                  rw [hu_1646a, hu_1646b] at hP hD
                  replace hF := hF.trans (bv_n hfn_1652)
                  replace hFr := fr_tr hFr hfr_1653
                  have tt_1654 : (I_1644 391 this).toInt ≤ 300 := by have z := hg_1647.1.1 391 this; exact z.2
                  have hG := GM.tr hG hg_1647 (by decide)
                  have tt_1655 : (I_1644 397 this).toInt = (I_1619 397 this).toInt := by rw [hg_1647.2.1 397 (by decide) (by decide)]
                  refine lv_goto (tgt := 11) hx hb dX12_keys_145 (by decide) ?_
                  exact ih_1532 (1 : Int32) I_1644 J_1645 r_1614 _ _ _ (rg_w (rg_k (1 : Int32) 1 rfl) (by decide)) (by have k0 : (1 : Int32).toInt = 1 := rfl; omega) (fun j hj => by rw [er_1614, va_up_self, upd_off (by have z0 := clampE x_1607; omega)]; exact (show ∀ j : Nat, (j : Int) < a0.toInt + 4 ∨ a0.toInt + 12 ≤ (j : Int) → r_1606 this_a j = ri this_a j from (fun j hj => by rw [er_1606, va_up_self, upd_off (by have z0 := clampE x_1595; omega)]; exact (show ∀ j : Nat, (j : Int) < a0.toInt + 4 ∨ a0.toInt + 12 ≤ (j : Int) → ri_1225 this_a j = ri this_a j from hrel_1539) j hj)) j hj) (Int.le_of_lt (Int.lt_of_lt_of_le (Int.lt_trans (tm_lt hkn_1641 hp_1649 hp_1650) (tm_lt hkn_1615 hp_1624 hp_1625)) hrel_1540)) (tm_ms hm_1529 (Int.lt_trans (tm_lt hkn_1641 hp_1649 hp_1650) (tm_lt hkn_1615 hp_1624 hp_1625)) (tm_b ((hG.1.1 391 this).2))) hF hFr hG hP hD hS (lv_sub hl [2, 3, 0] rfl)
              · replace hF := hF.trans (if_neg c_1581)
                have tc_1656 : (x_1573).toInt < 0 := Int32.lt_iff_toInt_lt.mp (nle c_1581)
                have h_1657 : rg x_1573 (-1) (-1) := rg_lt1 (nle c_1581) hr_1577 (rg_k (0 : Int32) 0 rfl) (by decide)
                have uh_1657 := h_1657.1
                have vh_1657 := h_1657.2
                refine lv_iconst (v := 1) hx hb dX12_keys_70 (by decide) ?_
                subst hQ
                exact W.iret (v := 1) hx hb hr (fun t1 ht hW => ⟨⟨1, (σ, I_1223, J_1224, ri_1225, rj, rq), rfl, ⟨I_1223, J_1224, ri_1225, rfl, hG, (by omega), hrel_1539, hrel_1540, (hF0.symm.trans hF), hFr, (rg_w (rg_k (1 : Int32) 1 rfl) (by decide))⟩, by rw [ht]; exact hP, va_K.moved hW.alike hK, hD⟩, hS.F ht⟩) hS.2.2 dX12_keys_71
            · replace hF := hF.trans (if_neg c_1565)
              have tc_1658 : 0 ≤ (x_1557).toInt := Int32.le_iff_toInt_le.mp (nlt c_1565)
              have h_1659 : rg x_1557 0 5 := rg_le2 (nlt c_1565) (rg_k (0 : Int32) 0 rfl) hr_1561 (by decide)
              have uh_1659 := h_1659.1
              have vh_1659 := h_1659.2
              refine lv_aload_n hx hb dX12_keys_41 rfl (lv_at hl 1 rfl) ?_
              refine pg_f (v := .ref this_a) (C := RX12) (T := TX12) (N := 31) hx hb hts (tw_i inlX12) hown hK hP hL_this hK_this (by decide) rfl 0 (by decide) (hts _ (tw_c tw_176)) (pq_hv rfl hR_this_a) dX12_keys_42 ?_
              refine lv_iload_n hx hb dX12_keys_45 rfl (lv_at hl 2 rfl) ?_
              refine lv_iconst (v := 4) hx hb dX12_keys_46 (by decide) ?_
              refine lv_iadd hx hb dX12_keys_47 ?_
              refine lv_topi (fun x_1660 ex_1660 => ?_)
              replace hF := hF.trans (ap_n ex_1660)
              have h_1661 : rg x_1660 3725 12053 := rg_of_eq ex_1660 (rg_add h_1 (rg_k (4 : Int32) 4 rfl) (by decide))
              have uh_1661 := h_1661.1
              have vh_1661 := h_1661.2
              have tx_1660 : (x_1660).toInt = (a0).toInt + 4 := by rw [ex_1660]; exact i_add_rg (a2 := (a0).toInt) (b2 := 4) rfl rfl h_1 (rg_k (4 : Int32) 4 rfl) (by decide)
              refine pl_i hx hb hK hP hL_this_a hK_this_a hN_this_a (rg_in h_1661 (by decide)) dX12_keys_48 ?_
              refine lv_topi (fun x_1662 ex_1662 => ?_)
              replace hF := hF.trans (ap_n (vR_r hO_this_a (by decide) ex_1662))
              have ex_1662 : x_1662 = ri_1225 this_a (x_1660).toNatClampNeg := ex_1662
              have h_1663 : rg x_1662 0 4 := rg_of_eq ex_1662 (GM.z hG (by rw [hT_this_a]; decide) (zn_tc (t := (ri this_a 6).toNatClampNeg) (c := (I 397 this).toNatClampNeg) (k := 4) (by have z_i := clampE x_1660; have z_0 := clampE (ri this_a 6); have z_1 := clampE (I 397 this); omega) (rg_cl1 ⟨hc.2.2.2.1, hc.2.2.2.2⟩ (by decide)) (rg_cl1 ⟨hc.2.1, hc.2.2.1⟩ (by decide)) (by decide)) rfl)
              have uh_1663 := h_1663.1
              have vh_1663 := h_1663.2
              refine lv_iconst (v := 4) hx hb dX12_keys_49 (by decide) ?_
              refine lv_icmp_ne (tgt := 55) hx hb dX12_keys_50 (by decide) (fun c_1664 => ?_) (fun c_1664 => ?_)
              · replace hF := hF.trans (if_neg c_1664)
                have tc_1669 : (x_1662).toInt ≠ 4 := fun q => c_1664 (Int32.toInt_inj.mp q)
                have h_1670 : rg x_1662 0 3 := rg_ne c_1664 h_1663 4 rfl (by decide)
                have uh_1670 := h_1670.1
                have vh_1670 := h_1670.2
                refine lv_iload_n hx hb dX12_keys_55 rfl (lv_at hl 0 rfl) ?_
                refine lv_if_eq (tgt := 63) hx hb dX12_keys_56 (by decide) (fun c_1671 => ?_) (fun c_1671 => absurd c_1671 (by decide))
                refine lv_aload_n hx hb dX12_keys_63 rfl (lv_at hl 1 rfl) ?_
                refine pk_i (va_runV (As := []) (rest := []) ⟨hx, hb, hml, hown, hts⟩ (s_X12_nameOf_d l D t σ I_1223 J_1224 ri_1225 rj rq H.size tg hSH hG.1 this hL_this hK_this) (cwV 0 hts (tw_V tw_921 tw_922 tw_923 tw_5 tw_924) rfl rfl rfl cv_yX12_nameOf_0 ⟨Nat.le_of_ble_eq_true rfl, Nat.le_of_ble_eq_true rfl⟩) ⟨pq_blind, pq_recv hK hP hL_this hK_this (by decide) rfl, pq_pre hK hN hP hD⟩ rfl rfl hl.1 rfl (lv_room (Nat.le_of_ble_eq_true rfl)) dX12_keys_64 ⟨Nat.le_of_ble_eq_true rfl, Nat.le_of_ble_eq_true rfl⟩) hD hS hA (fun x_1672 σ1 μ1 H locs hw_1673 hP hD hS => ?_)
                obtain ⟨hu_1674, hp_1677, hfn_1678, hr_1676⟩ := hw_1673
                obtain ⟨hu_1674a, hu_1674b⟩ := Prod.mk.inj hu_1674
                rw [hu_1674a, hu_1674b] at hP hD
                replace hF := hF.trans (bn_n hfn_1678)
                refine lv_if_ge (tgt := 72) hx hb dX12_keys_67 (by decide) (fun c_1680 => ?_) (fun c_1680 => ?_)
                · replace hF := hF.trans (if_pos c_1680)
                  have tc_1685 : 0 ≤ (x_1672).toInt := Int32.le_iff_toInt_le.mp c_1680
                  have h_1686 : rg x_1672 0 5 := rg_le2 c_1680 (rg_k (0 : Int32) 0 rfl) hr_1676 (by decide)
                  have uh_1686 := h_1686.1
                  have vh_1686 := h_1686.2
                  refine lv_aload_n hx hb dX12_keys_72 rfl (lv_at hl 1 rfl) ?_
                  refine pg_f (v := .ref this_a) (C := RX12) (T := TX12) (N := 31) hx hb hts (tw_i inlX12) hown hK hP hL_this hK_this (by decide) rfl 0 (by decide) (hts _ (tw_c tw_176)) (pq_hv rfl hR_this_a) dX12_keys_73 ?_
                  refine lv_iload_n hx hb dX12_keys_76 rfl (lv_at hl 2 rfl) ?_
                  refine lv_iconst (v := 5) hx hb dX12_keys_77 (by decide) ?_
                  refine lv_iadd hx hb dX12_keys_78 ?_
                  refine lv_topi (fun x_1687 ex_1687 => ?_)
                  replace hF := hF.trans (ap_n ex_1687)
                  have h_1688 : rg x_1687 3726 12054 := rg_of_eq ex_1687 (rg_add h_1 (rg_k (5 : Int32) 5 rfl) (by decide))
                  have uh_1688 := h_1688.1
                  have vh_1688 := h_1688.2
                  have tx_1687 : (x_1687).toInt = (a0).toInt + 5 := by rw [ex_1687]; exact i_add_rg (a2 := (a0).toInt) (b2 := 5) rfl rfl h_1 (rg_k (5 : Int32) 5 rfl) (by decide)
                  refine lv_aload_n hx hb dX12_keys_79 rfl (lv_at hl 1 rfl) ?_
                  refine pg_f (v := .ref this_a) (C := RX12) (T := TX12) (N := 31) hx hb hts (tw_i inlX12) hown hK hP hL_this hK_this (by decide) rfl 0 (by decide) (hts _ (tw_c tw_176)) (pq_hv rfl hR_this_a) dX12_keys_80 ?_
                  refine lv_iload_n hx hb dX12_keys_83 rfl (lv_at hl 2 rfl) ?_
                  refine lv_iconst (v := 4) hx hb dX12_keys_84 (by decide) ?_
                  refine lv_iadd hx hb dX12_keys_85 ?_
                  refine lv_topi (fun x_1689 ex_1689 => ?_)
                  replace hF := hF.trans (ap_n ex_1689)
                  have h_1690 : rg x_1689 3725 12053 := rg_of_eq ex_1689 (rg_add h_1 (rg_k (4 : Int32) 4 rfl) (by decide))
                  have uh_1690 := h_1690.1
                  have vh_1690 := h_1690.2
                  have tx_1689 : (x_1689).toInt = (a0).toInt + 4 := by rw [ex_1689]; exact i_add_rg (a2 := (a0).toInt) (b2 := 4) rfl rfl h_1 (rg_k (4 : Int32) 4 rfl) (by decide)
                  refine pl_i hx hb hK hP hL_this_a hK_this_a hN_this_a (rg_in h_1690 (by decide)) dX12_keys_86 ?_
                  refine lv_topi (fun x_1691 ex_1691 => ?_)
                  replace hF := hF.trans (ap_n (vR_r hO_this_a (by decide) ex_1691))
                  have ex_1691 : x_1691 = ri_1225 this_a (x_1689).toNatClampNeg := ex_1691
                  have h_1692 : rg x_1691 0 4 := rg_of_eq ex_1691 (GM.z hG (by rw [hT_this_a]; decide) (zn_tc (t := (ri this_a 6).toNatClampNeg) (c := (I 397 this).toNatClampNeg) (k := 4) (by have z_i := clampE x_1689; have z_0 := clampE (ri this_a 6); have z_1 := clampE (I 397 this); omega) (rg_cl1 ⟨hc.2.2.2.1, hc.2.2.2.2⟩ (by decide)) (rg_cl1 ⟨hc.2.1, hc.2.2.1⟩ (by decide)) (by decide)) rfl)
                  have uh_1692 := h_1692.1
                  have vh_1692 := h_1692.2
                  have hzz : (x_1691).toInt = (x_1662).toInt := congrArg Int32.toInt (show x_1691 = x_1662 from by rw [show x_1691 = _ from ex_1691, show x_1662 = _ from ex_1662]; exact congrArg (ri_1225 this_a) (by have z0 := clampE x_1689; have z1 := clampE x_1660; omega))
                  have h_1693 : rg x_1662 0 3 := ⟨by omega, by omega⟩
                  have uh_1693 := h_1693.1
                  have vh_1693 := h_1693.2
                  have h_1694 : rg x_1691 0 3 := ⟨by omega, by omega⟩
                  have uh_1694 := h_1694.1
                  have vh_1694 := h_1694.2
                  refine lv_iadd hx hb dX12_keys_87 ?_
                  refine lv_topi (fun x_1695 ex_1695 => ?_)
                  replace hF := hF.trans (ap_n ex_1695)
                  have h_1696 : rg x_1695 3726 12057 := rg_of_eq ex_1695 (rg_add h_1688 h_1694 (by decide))
                  have uh_1696 := h_1696.1
                  have vh_1696 := h_1696.2
                  have tx_1695 : (x_1695).toInt = (x_1687).toInt + (x_1691).toInt := by rw [ex_1695]; exact i_add_rg (a2 := (x_1687).toInt) (b2 := (x_1691).toInt) rfl rfl h_1688 h_1694 (by decide)
                  refine lv_iload_n hx hb dX12_keys_88 rfl (lv_at hl 0 rfl) ?_
                  refine lv_if_eq (tgt := 101) hx hb dX12_keys_89 (by decide) (fun c_1697 => ?_) (fun c_1697 => absurd c_1697 (by decide))
                  refine lv_aload_n hx hb dX12_keys_101 rfl (lv_at hl 1 rfl) ?_
                  refine pk_i (va_runV (As := []) (rest := [.int x_1695, .ref this_a]) ⟨hx, hb, hml, hown, hts⟩ (s_X12_nameOf_d l D t σ I_1223 J_1224 ri_1225 rj rq H.size tg hSH hG.1 this hL_this hK_this) (cwV 0 hts (tw_V tw_921 tw_922 tw_923 tw_5 tw_924) rfl rfl rfl cv_yX12_nameOf_0 ⟨Nat.le_of_ble_eq_true rfl, Nat.le_of_ble_eq_true rfl⟩) ⟨pq_blind, pq_recv hK hP hL_this hK_this (by decide) rfl, pq_pre hK hN hP hD⟩ rfl rfl hl.1 rfl (lv_room (Nat.le_of_ble_eq_true rfl)) dX12_keys_102 ⟨Nat.le_of_ble_eq_true rfl, Nat.le_of_ble_eq_true rfl⟩) hD hS hA (fun x_1698 σ1 μ1 H locs hw_1699 hP hD hS => ?_)
                  obtain ⟨hu_1700, hp_1703, hfn_1704, hr_1702⟩ := hw_1699
                  obtain ⟨hu_1700a, hu_1700b⟩ := Prod.mk.inj hu_1700
                  rw [hu_1700a, hu_1700b] at hP hD
                  replace hF := hF.trans (bn_n hfn_1704)
                  refine pt_i hx hb hK hP hD hS hL_this_a hK_this_a hN_this_a (rg_in h_1696 (by decide)) dX12_keys_105 (fun r_1706 H locs er_1706 hP hD hS => ?_)
                  replace hFr := fr_R hFr hO_this_a (by decide) er_1706
                  replace hF := hF.trans (ap_n (vR_st hVT hO_this_a (by decide) er_1706))
                  have hk4 : 0 ≤ (x_1691).toInt ∧ (x_1691).toInt ≤ 3 := ⟨by omega, by omega⟩
                  have hG := GM.wth hG hT_this_a (by decide) er_1706 (I 397 this).toNatClampNeg (by omega) (n := (ri this_a 6).toNatClampNeg) (by omega) (k := 5 + (x_1691).toNatClampNeg) (by have z_i := clampE x_1695; have z_k := clampE x_1691; omega) (by have z_k := clampE x_1691; omega) (by have z6 := congrArg Int32.toInt (hG.2.2.1 this_a hT_this_a 6 (by decide) (by decide)); have z_i := clampE x_1695; omega) (by decide)
                  refine lv_aload_n hx hb dX12_keys_106 rfl (lv_at hl 1 rfl) ?_
                  refine pg_f (v := .ref this_a) (C := RX12) (T := TX12) (N := 31) hx hb hts (tw_i inlX12) hown hK hP hL_this hK_this (by decide) rfl 0 (by decide) (hts _ (tw_c tw_176)) (pq_hv rfl hR_this_a) dX12_keys_107 ?_
                  refine lv_iload_n hx hb dX12_keys_110 rfl (lv_at hl 2 rfl) ?_
                  refine lv_iconst (v := 4) hx hb dX12_keys_111 (by decide) ?_
                  refine lv_iadd hx hb dX12_keys_112 ?_
                  refine lv_topi (fun x_1707 ex_1707 => ?_)
                  replace hF := hF.trans (ap_n ex_1707)
                  have h_1708 : rg x_1707 3725 12053 := rg_of_eq ex_1707 (rg_add h_1 (rg_k (4 : Int32) 4 rfl) (by decide))
                  have uh_1708 := h_1708.1
                  have vh_1708 := h_1708.2
                  have tx_1707 : (x_1707).toInt = (a0).toInt + 4 := by rw [ex_1707]; exact i_add_rg (a2 := (a0).toInt) (b2 := 4) rfl rfl h_1 (rg_k (4 : Int32) 4 rfl) (by decide)
                  refine lv_dup2_11 hx hb dX12_keys_113 rfl rfl ?_
                  refine pl_i hx hb hK hP hL_this_a hK_this_a hN_this_a (rg_in h_1708 (by decide)) dX12_keys_114 ?_
                  refine lv_topi (fun x_1709 ex_1709 => ?_)
                  replace hF := hF.trans (ap_n (vR_r hO_this_a (by decide) ex_1709))
                  have ex_1709 : x_1709 = r_1706 this_a (x_1707).toNatClampNeg := ex_1709
                  have h_1710 : rg x_1709 0 4 := rg_of_eq ex_1709 (GM.z hG (by rw [hT_this_a]; decide) (zn_tc (t := (ri this_a 6).toNatClampNeg) (c := (I 397 this).toNatClampNeg) (k := 4) (by have z_i := clampE x_1707; have z_0 := clampE (ri this_a 6); have z_1 := clampE (I 397 this); omega) (rg_cl1 ⟨hc.2.2.2.1, hc.2.2.2.2⟩ (by decide)) (rg_cl1 ⟨hc.2.1, hc.2.2.1⟩ (by decide)) (by decide)) rfl)
                  have uh_1710 := h_1710.1
                  have vh_1710 := h_1710.2
                  have hkz : (x_1709).toInt = (x_1691).toInt := by rw [show x_1709 = x_1691 from by rw [ex_1709, er_1706, va_up_self, upd_off (by have z0 := clampE x_1707; have z1 := clampE x_1695; have z2 := clampE x_1691; omega), ex_1691]; exact congrArg (ri_1225 this_a) (by have z0 := clampE x_1707; have z1 := clampE x_1689; omega)]
                  have h_1711 : rg x_1709 0 3 := ⟨by omega, by omega⟩
                  have uh_1711 := h_1711.1
                  have vh_1711 := h_1711.2
                  refine lv_iconst (v := 1) hx hb dX12_keys_115 (by decide) ?_
                  refine lv_iadd hx hb dX12_keys_116 ?_
                  refine lv_topi (fun x_1712 ex_1712 => ?_)
                  replace hF := hF.trans (ap_n ex_1712)
                  have h_1713 : rg x_1712 1 4 := rg_of_eq ex_1712 (rg_add h_1711 (rg_k (1 : Int32) 1 rfl) (by decide))
                  have uh_1713 := h_1713.1
                  have vh_1713 := h_1713.2
                  have tx_1712 : (x_1712).toInt = (x_1709).toInt + 1 := by rw [ex_1712]; exact i_add_rg (a2 := (x_1709).toInt) (b2 := 1) rfl rfl h_1711 (rg_k (1 : Int32) 1 rfl) (by decide)
                  refine pt_i hx hb hK hP hD hS hL_this_a hK_this_a hN_this_a (rg_in h_1708 (by decide)) dX12_keys_117 (fun r_1714 H locs er_1714 hP hD hS => ?_)
                  replace hFr := fr_R hFr hO_this_a (by decide) er_1714
                  replace hF := hF.trans (ap_n (vR_st hVT hO_this_a (by decide) er_1714))
                  have hG := GM.wt hG hT_this_a (by decide) er_1714 (zn_tc (t := (ri this_a 6).toNatClampNeg) (c := (I 397 this).toNatClampNeg) (k := 4) (by have z_i := clampE x_1707; have z_0 := clampE (ri this_a 6); have z_1 := clampE (I 397 this); omega) (rg_cl1 ⟨hc.2.2.2.1, hc.2.2.2.2⟩ (by decide)) (rg_cl1 ⟨hc.2.1, hc.2.2.1⟩ (by decide)) (by decide)) rfl (rg_w h_1713 (by decide)) (by have z6 := congrArg Int32.toInt (hG.2.2.1 this_a hT_this_a 6 (by decide) (by decide)); have z_i := clampE x_1707; omega) (by decide)
                  refine lv_aload_n hx hb dX12_keys_118 rfl (lv_at hl 1 rfl) ?_
                  have hkn_1715 : (I_1223 393 this).toInt ≠ 0 := fun q => absurd (q.symm.trans (hp_1677.1 (by omega)).1) (by decide)
                  obtain ⟨w_1716, hR_w_1716, hL_w_1716, hK_w_1716, hN_w_1716, hT_w_1716⟩ := sh_a hSH 387 (ci := 12) (kd := 13) (len := 300) rfl (by decide) hL_this hK_this
                  have hO_w_1716 : w_1716 = vrow σ 387 this := vo_k (c := 12) hO_this hR_w_1716
                  refine pk_v (va_runV (As := []) (rest := []) ⟨hx, hb, hml, hown, hts⟩ (s_X12_nextToken_x l D t σ I_1223 J_1224 r_1714 rj rq H.size tg hSH hG.1 this hL_this hK_this w_1716 hR_w_1716 hL_w_1716 hK_w_1716 hN_w_1716 hT_w_1716) (cwV 0 hts (tw_V tw_832 tw_833 tw_834 tw_5 tw_835) rfl rfl rfl cv_yX12_nextToken_0 ⟨Nat.le_of_ble_eq_true rfl, Nat.le_of_ble_eq_true rfl⟩) ⟨pq_blind, pq_recv hK hP hL_this hK_this (by decide) rfl, pq_pre hK hN hP hD⟩ rfl rfl hl.1 rfl (lv_room (Nat.le_of_ble_eq_true rfl)) dX12_keys_119 ⟨Nat.le_of_ble_eq_true rfl, Nat.le_of_ble_eq_true rfl⟩) hD hS hA (fun σ1 μ1 H locs hw_1718 hP hD hS => ?_)
                  obtain ⟨I_1719, J_1720, hu_1721, hg_1722, hp_1724, hp_1725, hp_1726, hfn_1727, hfr_1728⟩ := hw_1718
                  obtain ⟨hu_1721a, hu_1721b⟩ := Prod.mk.inj hu_1721
                  rw [hu_1721a, hu_1721b] at hP hD
                  replace hF := hF.trans (bv_n hfn_1727)
                  replace hFr := fr_tr hFr hfr_1728
                  have tt_1729 : (I_1719 391 this).toInt ≤ 300 := by have z := hg_1722.1.1 391 this; exact z.2
                  have hG := GM.tr hG hg_1722 (by decide)
                  have tt_1730 : (I_1719 397 this).toInt = (I_1223 397 this).toInt := by rw [hg_1722.2.1 397 (by decide) (by decide)]
                  refine lv_aload_n hx hb dX12_keys_122 rfl (lv_at hl 1 rfl) ?_
                  refine pg_f (v := .int (I_1719 393 this)) (C := RX12) (T := TX12) (N := 31) hx hb hts (tw_i inlX12) hown hK hP hL_this hK_this (by decide) rfl 9 (by decide) (hts _ (tw_c tw_831)) rfl dX12_keys_123 ?_
                  replace hF := hF.trans (ap_n (vI_e (f := 393) hO_this (by decide)))
                  refine lv_bipush (v := 44) hx hb dX12_keys_126 (by decide) ?_
                  refine lv_icmp_ne (tgt := 135) hx hb dX12_keys_128 (by decide) (fun c_1732 => ?_) (fun c_1732 => ?_)
                  · replace hF := hF.trans (if_neg c_1732)
                    have tc_1736 : (I_1719 393 this).toInt ≠ 44 := fun q => c_1732 (Int32.toInt_inj.mp q)
                    refine lv_iconst (v := 0) hx hb dX12_keys_135 (by decide) ?_
                    refine lv_istore_n (lv' := [(2, .int 0), (3, .int 0), (0, .ref this), (1, .int a0)]) hx hb dX12_keys_136 rfl hl (by decide) rfl (fun ls hl => ?_)
                    refine lv_iload_n hx hb dX12_keys_137 rfl (lv_at hl 0 rfl) ?_
                    refine lv_if_eq (tgt := 145) hx hb dX12_keys_138 (by decide) (fun c_1737 => ?_) (fun c_1737 => absurd c_1737 (by decide))
                    refine lv_goto (tgt := 11) hx hb dX12_keys_145 (by decide) ?_
                    exact ih_1532 (0 : Int32) I_1719 J_1720 r_1714 _ _ _ (rg_w (rg_k (0 : Int32) 0 rfl) (by decide)) (by have k0 : (0 : Int32).toInt = 0 := rfl; omega) (fun j hj => by rw [er_1714, va_up_self, upd_off (by have z0 := clampE x_1707; omega)]; exact (show ∀ j : Nat, (j : Int) < a0.toInt + 4 ∨ a0.toInt + 12 ≤ (j : Int) → r_1706 this_a j = ri this_a j from (fun j hj => by rw [er_1706, va_up_self, upd_off (by have z0 := clampE x_1695; omega)]; exact (show ∀ j : Nat, (j : Int) < a0.toInt + 4 ∨ a0.toInt + 12 ≤ (j : Int) → ri_1225 this_a j = ri this_a j from hrel_1539) j hj)) j hj) (Int.le_of_lt (Int.lt_of_lt_of_le (tm_lt hkn_1715 hp_1724 hp_1725) hrel_1540)) (tm_ms hm_1529 (tm_lt hkn_1715 hp_1724 hp_1725) (tm_b ((hG.1.1 391 this).2))) hF hFr hG hP hD hS (lv_sub hl [2, 3, 0] rfl)
                  · replace hF := hF.trans (if_pos c_1732)
                    have tc_1738 : (I_1719 393 this).toInt = 44 := congrArg Int32.toInt c_1732
                    have h_1739 : rg (I_1719 393 this) 44 44 := rg_and (rg_full _) (rg_of_eq c_1732 (rg_k (44 : Int32) 44 rfl)) (by decide)
                    have uh_1739 := h_1739.1
                    have vh_1739 := h_1739.2
                    refine lv_iconst (v := 1) hx hb dX12_keys_131 (by decide) ?_
                    refine lv_goto (tgt := 136) hx hb dX12_keys_132 (by decide) ?_
                    refine lv_istore_n (lv' := [(2, .int 1), (3, .int 0), (0, .ref this), (1, .int a0)]) hx hb dX12_keys_136 rfl hl (by decide) rfl (fun ls hl => ?_)
                    refine lv_iload_n hx hb dX12_keys_137 rfl (lv_at hl 0 rfl) ?_
                    refine lv_if_eq (tgt := 145) hx hb dX12_keys_138 (by decide) (fun c_1740 => absurd c_1740 (by decide)) (fun c_1740 => ?_)
                    refine lv_aload_n hx hb dX12_keys_141 rfl (lv_at hl 2 rfl) ?_
                    have hkn_1741 : (I_1719 393 this).toInt ≠ 0 := by omega
                    refine pk_v (va_runV (As := []) (rest := []) ⟨hx, hb, hml, hown, hts⟩ (s_X12_nextToken_x l D t σ I_1719 J_1720 r_1714 rj rq H.size tg hSH hG.1 this hL_this hK_this w_1716 hR_w_1716 hL_w_1716 hK_w_1716 hN_w_1716 hT_w_1716) (cwV 0 hts (tw_V tw_832 tw_833 tw_834 tw_5 tw_835) rfl rfl rfl cv_yX12_nextToken_0 ⟨Nat.le_of_ble_eq_true rfl, Nat.le_of_ble_eq_true rfl⟩) ⟨pq_blind, pq_recv hK hP hL_this hK_this (by decide) rfl, pq_pre hK hN hP hD⟩ rfl rfl hl.1 rfl (lv_room (Nat.le_of_ble_eq_true rfl)) dX12_keys_142 ⟨Nat.le_of_ble_eq_true rfl, Nat.le_of_ble_eq_true rfl⟩) hD hS hA (fun σ1 μ1 H locs hw_1743 hP hD hS => ?_)
                    obtain ⟨I_1744, J_1745, hu_1746, hg_1747, hp_1749, hp_1750, hp_1751, hfn_1752, hfr_1753⟩ := hw_1743
                    obtain ⟨hu_1746a, hu_1746b⟩ := Prod.mk.inj hu_1746
                    rw [hu_1746a, hu_1746b] at hP hD
                    replace hF := hF.trans (bv_n hfn_1752)
                    replace hFr := fr_tr hFr hfr_1753
                    have tt_1754 : (I_1744 391 this).toInt ≤ 300 := by have z := hg_1747.1.1 391 this; exact z.2
                    have hG := GM.tr hG hg_1747 (by decide)
                    have tt_1755 : (I_1744 397 this).toInt = (I_1719 397 this).toInt := by rw [hg_1747.2.1 397 (by decide) (by decide)]
                    refine lv_goto (tgt := 11) hx hb dX12_keys_145 (by decide) ?_
                    exact ih_1532 (1 : Int32) I_1744 J_1745 r_1714 _ _ _ (rg_w (rg_k (1 : Int32) 1 rfl) (by decide)) (by have k0 : (1 : Int32).toInt = 1 := rfl; omega) (fun j hj => by rw [er_1714, va_up_self, upd_off (by have z0 := clampE x_1707; omega)]; exact (show ∀ j : Nat, (j : Int) < a0.toInt + 4 ∨ a0.toInt + 12 ≤ (j : Int) → r_1706 this_a j = ri this_a j from (fun j hj => by rw [er_1706, va_up_self, upd_off (by have z0 := clampE x_1695; omega)]; exact (show ∀ j : Nat, (j : Int) < a0.toInt + 4 ∨ a0.toInt + 12 ≤ (j : Int) → ri_1225 this_a j = ri this_a j from hrel_1539) j hj)) j hj) (Int.le_of_lt (Int.lt_of_lt_of_le (Int.lt_trans (tm_lt hkn_1741 hp_1749 hp_1750) (tm_lt hkn_1715 hp_1724 hp_1725)) hrel_1540)) (tm_ms hm_1529 (Int.lt_trans (tm_lt hkn_1741 hp_1749 hp_1750) (tm_lt hkn_1715 hp_1724 hp_1725)) (tm_b ((hG.1.1 391 this).2))) hF hFr hG hP hD hS (lv_sub hl [2, 3, 0] rfl)
                · replace hF := hF.trans (if_neg c_1680)
                  have tc_1756 : (x_1672).toInt < 0 := Int32.lt_iff_toInt_lt.mp (nle c_1680)
                  have h_1757 : rg x_1672 (-1) (-1) := rg_lt1 (nle c_1680) hr_1676 (rg_k (0 : Int32) 0 rfl) (by decide)
                  have uh_1757 := h_1757.1
                  have vh_1757 := h_1757.2
                  refine lv_iconst (v := 1) hx hb dX12_keys_70 (by decide) ?_
                  subst hQ
                  exact W.iret (v := 1) hx hb hr (fun t1 ht hW => ⟨⟨1, (σ, I_1223, J_1224, ri_1225, rj, rq), rfl, ⟨I_1223, J_1224, ri_1225, rfl, hG, (by omega), hrel_1539, hrel_1540, (hF0.symm.trans hF), hFr, (rg_w (rg_k (1 : Int32) 1 rfl) (by decide))⟩, by rw [ht]; exact hP, va_K.moved hW.alike hK, hD⟩, hS.F ht⟩) hS.2.2 dX12_keys_71
              · replace hF := hF.trans (if_pos c_1664)
                have tc_1758 : (x_1662).toInt = 4 := congrArg Int32.toInt c_1664
                have h_1759 : rg x_1662 4 4 := rg_and h_1663 (rg_of_eq c_1664 (rg_k (4 : Int32) 4 rfl)) (by decide)
                have uh_1759 := h_1759.1
                have vh_1759 := h_1759.2
                refine lv_iconst (v := 5) hx hb dX12_keys_53 (by decide) ?_
                subst hQ
                exact W.iret (v := 5) hx hb hr (fun t1 ht hW => ⟨⟨5, (σ, I_1223, J_1224, ri_1225, rj, rq), rfl, ⟨I_1223, J_1224, ri_1225, rfl, hG, (by omega), hrel_1539, hrel_1540, (hF0.symm.trans hF), hFr, (rg_w (rg_k (5 : Int32) 5 rfl) (by decide))⟩, by rw [ht]; exact hP, va_K.moved hW.alike hK, hD⟩, hS.F ht⟩) hS.2.2 dX12_keys_54
          · replace hF := hF.trans (if_pos c_1551)
            have tc_1760 : (I_1223 393 this).toInt = 45 := congrArg Int32.toInt c_1551
            have h_1761 : rg (I_1223 393 this) 45 45 := rg_and (rg_full _) (rg_of_eq c_1551 (rg_k (45 : Int32) 45 rfl)) (by decide)
            have uh_1761 := h_1761.1
            have vh_1761 := h_1761.2
            refine lv_iconst (v := 1) hx hb dX12_keys_24 (by decide) ?_
            refine lv_goto (tgt := 29) hx hb dX12_keys_25 (by decide) ?_
            refine lv_istore_n (lv' := [(3, .int 1), (0, .ref this), (1, .int a0), (2, .int x_1222)]) hx hb dX12_keys_29 rfl hl (by decide) rfl (fun ls hl => ?_)
            refine lv_iload_n hx hb dX12_keys_30 rfl (lv_at hl 0 rfl) ?_
            refine lv_if_ne (tgt := 41) hx hb dX12_keys_31 (by decide) (fun c_1762 => ?_) (fun c_1762 => absurd c_1762 (by decide))
            refine lv_aload_n hx hb dX12_keys_41 rfl (lv_at hl 1 rfl) ?_
            refine pg_f (v := .ref this_a) (C := RX12) (T := TX12) (N := 31) hx hb hts (tw_i inlX12) hown hK hP hL_this hK_this (by decide) rfl 0 (by decide) (hts _ (tw_c tw_176)) (pq_hv rfl hR_this_a) dX12_keys_42 ?_
            refine lv_iload_n hx hb dX12_keys_45 rfl (lv_at hl 2 rfl) ?_
            refine lv_iconst (v := 4) hx hb dX12_keys_46 (by decide) ?_
            refine lv_iadd hx hb dX12_keys_47 ?_
            refine lv_topi (fun x_1763 ex_1763 => ?_)
            replace hF := hF.trans (ap_n ex_1763)
            have h_1764 : rg x_1763 3725 12053 := rg_of_eq ex_1763 (rg_add h_1 (rg_k (4 : Int32) 4 rfl) (by decide))
            have uh_1764 := h_1764.1
            have vh_1764 := h_1764.2
            have tx_1763 : (x_1763).toInt = (a0).toInt + 4 := by rw [ex_1763]; exact i_add_rg (a2 := (a0).toInt) (b2 := 4) rfl rfl h_1 (rg_k (4 : Int32) 4 rfl) (by decide)
            refine pl_i hx hb hK hP hL_this_a hK_this_a hN_this_a (rg_in h_1764 (by decide)) dX12_keys_48 ?_
            refine lv_topi (fun x_1765 ex_1765 => ?_)
            replace hF := hF.trans (ap_n (vR_r hO_this_a (by decide) ex_1765))
            have ex_1765 : x_1765 = ri_1225 this_a (x_1763).toNatClampNeg := ex_1765
            have h_1766 : rg x_1765 0 4 := rg_of_eq ex_1765 (GM.z hG (by rw [hT_this_a]; decide) (zn_tc (t := (ri this_a 6).toNatClampNeg) (c := (I 397 this).toNatClampNeg) (k := 4) (by have z_i := clampE x_1763; have z_0 := clampE (ri this_a 6); have z_1 := clampE (I 397 this); omega) (rg_cl1 ⟨hc.2.2.2.1, hc.2.2.2.2⟩ (by decide)) (rg_cl1 ⟨hc.2.1, hc.2.2.1⟩ (by decide)) (by decide)) rfl)
            have uh_1766 := h_1766.1
            have vh_1766 := h_1766.2
            refine lv_iconst (v := 4) hx hb dX12_keys_49 (by decide) ?_
            refine lv_icmp_ne (tgt := 55) hx hb dX12_keys_50 (by decide) (fun c_1767 => ?_) (fun c_1767 => ?_)
            · replace hF := hF.trans (if_neg c_1767)
              have tc_1772 : (x_1765).toInt ≠ 4 := fun q => c_1767 (Int32.toInt_inj.mp q)
              have h_1773 : rg x_1765 0 3 := rg_ne c_1767 h_1766 4 rfl (by decide)
              have uh_1773 := h_1773.1
              have vh_1773 := h_1773.2
              refine lv_iload_n hx hb dX12_keys_55 rfl (lv_at hl 0 rfl) ?_
              refine lv_if_eq (tgt := 63) hx hb dX12_keys_56 (by decide) (fun c_1774 => absurd c_1774 (by decide)) (fun c_1774 => ?_)
              refine lv_aload_n hx hb dX12_keys_59 rfl (lv_at hl 1 rfl) ?_
              have hkn_1775 : (I_1223 393 this).toInt ≠ 0 := by omega
              obtain ⟨w_1776, hR_w_1776, hL_w_1776, hK_w_1776, hN_w_1776, hT_w_1776⟩ := sh_a hSH 387 (ci := 12) (kd := 13) (len := 300) rfl (by decide) hL_this hK_this
              have hO_w_1776 : w_1776 = vrow σ 387 this := vo_k (c := 12) hO_this hR_w_1776
              refine pk_v (va_runV (As := []) (rest := []) ⟨hx, hb, hml, hown, hts⟩ (s_X12_nextToken_x l D t σ I_1223 J_1224 ri_1225 rj rq H.size tg hSH hG.1 this hL_this hK_this w_1776 hR_w_1776 hL_w_1776 hK_w_1776 hN_w_1776 hT_w_1776) (cwV 0 hts (tw_V tw_832 tw_833 tw_834 tw_5 tw_835) rfl rfl rfl cv_yX12_nextToken_0 ⟨Nat.le_of_ble_eq_true rfl, Nat.le_of_ble_eq_true rfl⟩) ⟨pq_blind, pq_recv hK hP hL_this hK_this (by decide) rfl, pq_pre hK hN hP hD⟩ rfl rfl hl.1 rfl (lv_room (Nat.le_of_ble_eq_true rfl)) dX12_keys_60 ⟨Nat.le_of_ble_eq_true rfl, Nat.le_of_ble_eq_true rfl⟩) hD hS hA (fun σ1 μ1 H locs hw_1778 hP hD hS => ?_)
              obtain ⟨I_1779, J_1780, hu_1781, hg_1782, hp_1784, hp_1785, hp_1786, hfn_1787, hfr_1788⟩ := hw_1778
              obtain ⟨hu_1781a, hu_1781b⟩ := Prod.mk.inj hu_1781
              rw [hu_1781a, hu_1781b] at hP hD
              replace hF := hF.trans (bv_n hfn_1787)
              replace hFr := fr_tr hFr hfr_1788
              have tt_1789 : (I_1779 391 this).toInt ≤ 300 := by have z := hg_1782.1.1 391 this; exact z.2
              have hG := GM.tr hG hg_1782 (by decide)
              have tt_1790 : (I_1779 397 this).toInt = (I_1223 397 this).toInt := by rw [hg_1782.2.1 397 (by decide) (by decide)]
              refine lv_aload_n hx hb dX12_keys_63 rfl (lv_at hl 1 rfl) ?_
              refine pk_i (va_runV (As := []) (rest := []) ⟨hx, hb, hml, hown, hts⟩ (s_X12_nameOf_d l D t σ I_1779 J_1780 ri_1225 rj rq H.size tg hSH hG.1 this hL_this hK_this) (cwV 0 hts (tw_V tw_921 tw_922 tw_923 tw_5 tw_924) rfl rfl rfl cv_yX12_nameOf_0 ⟨Nat.le_of_ble_eq_true rfl, Nat.le_of_ble_eq_true rfl⟩) ⟨pq_blind, pq_recv hK hP hL_this hK_this (by decide) rfl, pq_pre hK hN hP hD⟩ rfl rfl hl.1 rfl (lv_room (Nat.le_of_ble_eq_true rfl)) dX12_keys_64 ⟨Nat.le_of_ble_eq_true rfl, Nat.le_of_ble_eq_true rfl⟩) hD hS hA (fun x_1791 σ1 μ1 H locs hw_1792 hP hD hS => ?_)
              obtain ⟨hu_1793, hp_1796, hfn_1797, hr_1795⟩ := hw_1792
              obtain ⟨hu_1793a, hu_1793b⟩ := Prod.mk.inj hu_1793
              rw [hu_1793a, hu_1793b] at hP hD
              replace hF := hF.trans (bn_n hfn_1797)
              refine lv_if_ge (tgt := 72) hx hb dX12_keys_67 (by decide) (fun c_1799 => ?_) (fun c_1799 => ?_)
              · replace hF := hF.trans (if_pos c_1799)
                have tc_1804 : 0 ≤ (x_1791).toInt := Int32.le_iff_toInt_le.mp c_1799
                have h_1805 : rg x_1791 0 5 := rg_le2 c_1799 (rg_k (0 : Int32) 0 rfl) hr_1795 (by decide)
                have uh_1805 := h_1805.1
                have vh_1805 := h_1805.2
                refine lv_aload_n hx hb dX12_keys_72 rfl (lv_at hl 1 rfl) ?_
                refine pg_f (v := .ref this_a) (C := RX12) (T := TX12) (N := 31) hx hb hts (tw_i inlX12) hown hK hP hL_this hK_this (by decide) rfl 0 (by decide) (hts _ (tw_c tw_176)) (pq_hv rfl hR_this_a) dX12_keys_73 ?_
                refine lv_iload_n hx hb dX12_keys_76 rfl (lv_at hl 2 rfl) ?_
                refine lv_iconst (v := 5) hx hb dX12_keys_77 (by decide) ?_
                refine lv_iadd hx hb dX12_keys_78 ?_
                refine lv_topi (fun x_1806 ex_1806 => ?_)
                replace hF := hF.trans (ap_n ex_1806)
                have h_1807 : rg x_1806 3726 12054 := rg_of_eq ex_1806 (rg_add h_1 (rg_k (5 : Int32) 5 rfl) (by decide))
                have uh_1807 := h_1807.1
                have vh_1807 := h_1807.2
                have tx_1806 : (x_1806).toInt = (a0).toInt + 5 := by rw [ex_1806]; exact i_add_rg (a2 := (a0).toInt) (b2 := 5) rfl rfl h_1 (rg_k (5 : Int32) 5 rfl) (by decide)
                refine lv_aload_n hx hb dX12_keys_79 rfl (lv_at hl 1 rfl) ?_
                refine pg_f (v := .ref this_a) (C := RX12) (T := TX12) (N := 31) hx hb hts (tw_i inlX12) hown hK hP hL_this hK_this (by decide) rfl 0 (by decide) (hts _ (tw_c tw_176)) (pq_hv rfl hR_this_a) dX12_keys_80 ?_
                refine lv_iload_n hx hb dX12_keys_83 rfl (lv_at hl 2 rfl) ?_
                refine lv_iconst (v := 4) hx hb dX12_keys_84 (by decide) ?_
                refine lv_iadd hx hb dX12_keys_85 ?_
                refine lv_topi (fun x_1808 ex_1808 => ?_)
                replace hF := hF.trans (ap_n ex_1808)
                have h_1809 : rg x_1808 3725 12053 := rg_of_eq ex_1808 (rg_add h_1 (rg_k (4 : Int32) 4 rfl) (by decide))
                have uh_1809 := h_1809.1
                have vh_1809 := h_1809.2
                have tx_1808 : (x_1808).toInt = (a0).toInt + 4 := by rw [ex_1808]; exact i_add_rg (a2 := (a0).toInt) (b2 := 4) rfl rfl h_1 (rg_k (4 : Int32) 4 rfl) (by decide)
                refine pl_i hx hb hK hP hL_this_a hK_this_a hN_this_a (rg_in h_1809 (by decide)) dX12_keys_86 ?_
                refine lv_topi (fun x_1810 ex_1810 => ?_)
                replace hF := hF.trans (ap_n (vR_r hO_this_a (by decide) ex_1810))
                have ex_1810 : x_1810 = ri_1225 this_a (x_1808).toNatClampNeg := ex_1810
                have h_1811 : rg x_1810 0 4 := rg_of_eq ex_1810 (GM.z hG (by rw [hT_this_a]; decide) (zn_tc (t := (ri this_a 6).toNatClampNeg) (c := (I 397 this).toNatClampNeg) (k := 4) (by have z_i := clampE x_1808; have z_0 := clampE (ri this_a 6); have z_1 := clampE (I 397 this); omega) (rg_cl1 ⟨hc.2.2.2.1, hc.2.2.2.2⟩ (by decide)) (rg_cl1 ⟨hc.2.1, hc.2.2.1⟩ (by decide)) (by decide)) rfl)
                have uh_1811 := h_1811.1
                have vh_1811 := h_1811.2
                have hzz : (x_1810).toInt = (x_1765).toInt := congrArg Int32.toInt (show x_1810 = x_1765 from by rw [show x_1810 = _ from ex_1810, show x_1765 = _ from ex_1765]; exact congrArg (ri_1225 this_a) (by have z0 := clampE x_1808; have z1 := clampE x_1763; omega))
                have h_1812 : rg x_1765 0 3 := ⟨by omega, by omega⟩
                have uh_1812 := h_1812.1
                have vh_1812 := h_1812.2
                have h_1813 : rg x_1810 0 3 := ⟨by omega, by omega⟩
                have uh_1813 := h_1813.1
                have vh_1813 := h_1813.2
                refine lv_iadd hx hb dX12_keys_87 ?_
                refine lv_topi (fun x_1814 ex_1814 => ?_)
                replace hF := hF.trans (ap_n ex_1814)
                have h_1815 : rg x_1814 3726 12057 := rg_of_eq ex_1814 (rg_add h_1807 h_1813 (by decide))
                have uh_1815 := h_1815.1
                have vh_1815 := h_1815.2
                have tx_1814 : (x_1814).toInt = (x_1806).toInt + (x_1810).toInt := by rw [ex_1814]; exact i_add_rg (a2 := (x_1806).toInt) (b2 := (x_1810).toInt) rfl rfl h_1807 h_1813 (by decide)
                refine lv_iload_n hx hb dX12_keys_88 rfl (lv_at hl 0 rfl) ?_
                refine lv_if_eq (tgt := 101) hx hb dX12_keys_89 (by decide) (fun c_1816 => absurd c_1816 (by decide)) (fun c_1816 => ?_)
                refine lv_iconst (v := (-1)) hx hb dX12_keys_92 (by decide) ?_
                refine lv_aload_n hx hb dX12_keys_93 rfl (lv_at hl 1 rfl) ?_
                refine pk_i (va_runV (As := []) (rest := [.int (-1), .int x_1814, .ref this_a]) ⟨hx, hb, hml, hown, hts⟩ (s_X12_nameOf_d l D t σ I_1779 J_1780 ri_1225 rj rq H.size tg hSH hG.1 this hL_this hK_this) (cwV 0 hts (tw_V tw_921 tw_922 tw_923 tw_5 tw_924) rfl rfl rfl cv_yX12_nameOf_0 ⟨Nat.le_of_ble_eq_true rfl, Nat.le_of_ble_eq_true rfl⟩) ⟨pq_blind, pq_recv hK hP hL_this hK_this (by decide) rfl, pq_pre hK hN hP hD⟩ rfl rfl hl.1 rfl (lv_room (Nat.le_of_ble_eq_true rfl)) dX12_keys_94 ⟨Nat.le_of_ble_eq_true rfl, Nat.le_of_ble_eq_true rfl⟩) hD hS hA (fun x_1817 σ1 μ1 H locs hw_1818 hP hD hS => ?_)
                obtain ⟨hu_1819, hp_1822, hfn_1823, hr_1821⟩ := hw_1818
                obtain ⟨hu_1819a, hu_1819b⟩ := Prod.mk.inj hu_1819
                rw [hu_1819a, hu_1819b] at hP hD
                replace hF := hF.trans (bn_n hfn_1823)
                refine lv_isub hx hb dX12_keys_97 ?_
                refine lv_topi (fun x_1825 ex_1825 => ?_)
                replace hF := hF.trans (ap_n ex_1825)
                have h_1826 : rg x_1825 (-6) 0 := rg_of_eq ex_1825 (rg_sub (rg_k (-1 : Int32) (-1) rfl) hr_1821 (by decide))
                have uh_1826 := h_1826.1
                have vh_1826 := h_1826.2
                have tx_1825 : (x_1825).toInt = (-1) - (x_1817).toInt := by rw [ex_1825]; exact i_sub_rg (a2 := (-1)) (b2 := (x_1817).toInt) rfl rfl (rg_k (-1 : Int32) (-1) rfl) hr_1821 (by decide)
                refine lv_goto (tgt := 105) hx hb dX12_keys_98 (by decide) ?_
                refine pt_i hx hb hK hP hD hS hL_this_a hK_this_a hN_this_a (rg_in h_1815 (by decide)) dX12_keys_105 (fun r_1827 H locs er_1827 hP hD hS => ?_)
                replace hFr := fr_R hFr hO_this_a (by decide) er_1827
                replace hF := hF.trans (ap_n (vR_st hVT hO_this_a (by decide) er_1827))
                have hk4 : 0 ≤ (x_1810).toInt ∧ (x_1810).toInt ≤ 3 := ⟨by omega, by omega⟩
                have hG := GM.wth hG hT_this_a (by decide) er_1827 (I 397 this).toNatClampNeg (by omega) (n := (ri this_a 6).toNatClampNeg) (by omega) (k := 5 + (x_1810).toNatClampNeg) (by have z_i := clampE x_1814; have z_k := clampE x_1810; omega) (by have z_k := clampE x_1810; omega) (by have z6 := congrArg Int32.toInt (hG.2.2.1 this_a hT_this_a 6 (by decide) (by decide)); have z_i := clampE x_1814; omega) (by decide)
                refine lv_aload_n hx hb dX12_keys_106 rfl (lv_at hl 1 rfl) ?_
                refine pg_f (v := .ref this_a) (C := RX12) (T := TX12) (N := 31) hx hb hts (tw_i inlX12) hown hK hP hL_this hK_this (by decide) rfl 0 (by decide) (hts _ (tw_c tw_176)) (pq_hv rfl hR_this_a) dX12_keys_107 ?_
                refine lv_iload_n hx hb dX12_keys_110 rfl (lv_at hl 2 rfl) ?_
                refine lv_iconst (v := 4) hx hb dX12_keys_111 (by decide) ?_
                refine lv_iadd hx hb dX12_keys_112 ?_
                refine lv_topi (fun x_1828 ex_1828 => ?_)
                replace hF := hF.trans (ap_n ex_1828)
                have h_1829 : rg x_1828 3725 12053 := rg_of_eq ex_1828 (rg_add h_1 (rg_k (4 : Int32) 4 rfl) (by decide))
                have uh_1829 := h_1829.1
                have vh_1829 := h_1829.2
                have tx_1828 : (x_1828).toInt = (a0).toInt + 4 := by rw [ex_1828]; exact i_add_rg (a2 := (a0).toInt) (b2 := 4) rfl rfl h_1 (rg_k (4 : Int32) 4 rfl) (by decide)
                refine lv_dup2_11 hx hb dX12_keys_113 rfl rfl ?_
                refine pl_i hx hb hK hP hL_this_a hK_this_a hN_this_a (rg_in h_1829 (by decide)) dX12_keys_114 ?_
                refine lv_topi (fun x_1830 ex_1830 => ?_)
                replace hF := hF.trans (ap_n (vR_r hO_this_a (by decide) ex_1830))
                have ex_1830 : x_1830 = r_1827 this_a (x_1828).toNatClampNeg := ex_1830
                have h_1831 : rg x_1830 0 4 := rg_of_eq ex_1830 (GM.z hG (by rw [hT_this_a]; decide) (zn_tc (t := (ri this_a 6).toNatClampNeg) (c := (I 397 this).toNatClampNeg) (k := 4) (by have z_i := clampE x_1828; have z_0 := clampE (ri this_a 6); have z_1 := clampE (I 397 this); omega) (rg_cl1 ⟨hc.2.2.2.1, hc.2.2.2.2⟩ (by decide)) (rg_cl1 ⟨hc.2.1, hc.2.2.1⟩ (by decide)) (by decide)) rfl)
                have uh_1831 := h_1831.1
                have vh_1831 := h_1831.2
                have hkz : (x_1830).toInt = (x_1810).toInt := by rw [show x_1830 = x_1810 from by rw [ex_1830, er_1827, va_up_self, upd_off (by have z0 := clampE x_1828; have z1 := clampE x_1814; have z2 := clampE x_1810; omega), ex_1810]; exact congrArg (ri_1225 this_a) (by have z0 := clampE x_1828; have z1 := clampE x_1808; omega)]
                have h_1832 : rg x_1830 0 3 := ⟨by omega, by omega⟩
                have uh_1832 := h_1832.1
                have vh_1832 := h_1832.2
                refine lv_iconst (v := 1) hx hb dX12_keys_115 (by decide) ?_
                refine lv_iadd hx hb dX12_keys_116 ?_
                refine lv_topi (fun x_1833 ex_1833 => ?_)
                replace hF := hF.trans (ap_n ex_1833)
                have h_1834 : rg x_1833 1 4 := rg_of_eq ex_1833 (rg_add h_1832 (rg_k (1 : Int32) 1 rfl) (by decide))
                have uh_1834 := h_1834.1
                have vh_1834 := h_1834.2
                have tx_1833 : (x_1833).toInt = (x_1830).toInt + 1 := by rw [ex_1833]; exact i_add_rg (a2 := (x_1830).toInt) (b2 := 1) rfl rfl h_1832 (rg_k (1 : Int32) 1 rfl) (by decide)
                refine pt_i hx hb hK hP hD hS hL_this_a hK_this_a hN_this_a (rg_in h_1829 (by decide)) dX12_keys_117 (fun r_1835 H locs er_1835 hP hD hS => ?_)
                replace hFr := fr_R hFr hO_this_a (by decide) er_1835
                replace hF := hF.trans (ap_n (vR_st hVT hO_this_a (by decide) er_1835))
                have hG := GM.wt hG hT_this_a (by decide) er_1835 (zn_tc (t := (ri this_a 6).toNatClampNeg) (c := (I 397 this).toNatClampNeg) (k := 4) (by have z_i := clampE x_1828; have z_0 := clampE (ri this_a 6); have z_1 := clampE (I 397 this); omega) (rg_cl1 ⟨hc.2.2.2.1, hc.2.2.2.2⟩ (by decide)) (rg_cl1 ⟨hc.2.1, hc.2.2.1⟩ (by decide)) (by decide)) rfl (rg_w h_1834 (by decide)) (by have z6 := congrArg Int32.toInt (hG.2.2.1 this_a hT_this_a 6 (by decide) (by decide)); have z_i := clampE x_1828; omega) (by decide)
                refine lv_aload_n hx hb dX12_keys_118 rfl (lv_at hl 1 rfl) ?_
                have hkn_1836 : (I_1779 393 this).toInt ≠ 0 := fun q => absurd (q.symm.trans (hp_1796.1 (by omega)).1) (by decide)
                refine pk_v (va_runV (As := []) (rest := []) ⟨hx, hb, hml, hown, hts⟩ (s_X12_nextToken_x l D t σ I_1779 J_1780 r_1835 rj rq H.size tg hSH hG.1 this hL_this hK_this w_1776 hR_w_1776 hL_w_1776 hK_w_1776 hN_w_1776 hT_w_1776) (cwV 0 hts (tw_V tw_832 tw_833 tw_834 tw_5 tw_835) rfl rfl rfl cv_yX12_nextToken_0 ⟨Nat.le_of_ble_eq_true rfl, Nat.le_of_ble_eq_true rfl⟩) ⟨pq_blind, pq_recv hK hP hL_this hK_this (by decide) rfl, pq_pre hK hN hP hD⟩ rfl rfl hl.1 rfl (lv_room (Nat.le_of_ble_eq_true rfl)) dX12_keys_119 ⟨Nat.le_of_ble_eq_true rfl, Nat.le_of_ble_eq_true rfl⟩) hD hS hA (fun σ1 μ1 H locs hw_1838 hP hD hS => ?_)
                obtain ⟨I_1839, J_1840, hu_1841, hg_1842, hp_1844, hp_1845, hp_1846, hfn_1847, hfr_1848⟩ := hw_1838
                obtain ⟨hu_1841a, hu_1841b⟩ := Prod.mk.inj hu_1841
                rw [hu_1841a, hu_1841b] at hP hD
                replace hF := hF.trans (bv_n hfn_1847)
                replace hFr := fr_tr hFr hfr_1848
                have tt_1849 : (I_1839 391 this).toInt ≤ 300 := by have z := hg_1842.1.1 391 this; exact z.2
                have hG := GM.tr hG hg_1842 (by decide)
                have tt_1850 : (I_1839 397 this).toInt = (I_1779 397 this).toInt := by rw [hg_1842.2.1 397 (by decide) (by decide)]
                refine lv_aload_n hx hb dX12_keys_122 rfl (lv_at hl 1 rfl) ?_
                refine pg_f (v := .int (I_1839 393 this)) (C := RX12) (T := TX12) (N := 31) hx hb hts (tw_i inlX12) hown hK hP hL_this hK_this (by decide) rfl 9 (by decide) (hts _ (tw_c tw_831)) rfl dX12_keys_123 ?_
                replace hF := hF.trans (ap_n (vI_e (f := 393) hO_this (by decide)))
                refine lv_bipush (v := 44) hx hb dX12_keys_126 (by decide) ?_
                refine lv_icmp_ne (tgt := 135) hx hb dX12_keys_128 (by decide) (fun c_1852 => ?_) (fun c_1852 => ?_)
                · replace hF := hF.trans (if_neg c_1852)
                  have tc_1856 : (I_1839 393 this).toInt ≠ 44 := fun q => c_1852 (Int32.toInt_inj.mp q)
                  refine lv_iconst (v := 0) hx hb dX12_keys_135 (by decide) ?_
                  refine lv_istore_n (lv' := [(2, .int 0), (3, .int 1), (0, .ref this), (1, .int a0)]) hx hb dX12_keys_136 rfl hl (by decide) rfl (fun ls hl => ?_)
                  refine lv_iload_n hx hb dX12_keys_137 rfl (lv_at hl 0 rfl) ?_
                  refine lv_if_eq (tgt := 145) hx hb dX12_keys_138 (by decide) (fun c_1857 => ?_) (fun c_1857 => absurd c_1857 (by decide))
                  refine lv_goto (tgt := 11) hx hb dX12_keys_145 (by decide) ?_
                  exact ih_1532 (0 : Int32) I_1839 J_1840 r_1835 _ _ _ (rg_w (rg_k (0 : Int32) 0 rfl) (by decide)) (by have k0 : (0 : Int32).toInt = 0 := rfl; omega) (fun j hj => by rw [er_1835, va_up_self, upd_off (by have z0 := clampE x_1828; omega)]; exact (show ∀ j : Nat, (j : Int) < a0.toInt + 4 ∨ a0.toInt + 12 ≤ (j : Int) → r_1827 this_a j = ri this_a j from (fun j hj => by rw [er_1827, va_up_self, upd_off (by have z0 := clampE x_1814; omega)]; exact (show ∀ j : Nat, (j : Int) < a0.toInt + 4 ∨ a0.toInt + 12 ≤ (j : Int) → ri_1225 this_a j = ri this_a j from hrel_1539) j hj)) j hj) (Int.le_of_lt (Int.lt_of_lt_of_le (Int.lt_trans (tm_lt hkn_1836 hp_1844 hp_1845) (tm_lt hkn_1775 hp_1784 hp_1785)) hrel_1540)) (tm_ms hm_1529 (Int.lt_trans (tm_lt hkn_1836 hp_1844 hp_1845) (tm_lt hkn_1775 hp_1784 hp_1785)) (tm_b ((hG.1.1 391 this).2))) hF hFr hG hP hD hS (lv_sub hl [2, 3, 0] rfl)
                · replace hF := hF.trans (if_pos c_1852)
                  have tc_1858 : (I_1839 393 this).toInt = 44 := congrArg Int32.toInt c_1852
                  have h_1859 : rg (I_1839 393 this) 44 44 := rg_and (rg_full _) (rg_of_eq c_1852 (rg_k (44 : Int32) 44 rfl)) (by decide)
                  have uh_1859 := h_1859.1
                  have vh_1859 := h_1859.2
                  refine lv_iconst (v := 1) hx hb dX12_keys_131 (by decide) ?_
                  refine lv_goto (tgt := 136) hx hb dX12_keys_132 (by decide) ?_
                  refine lv_istore_n (lv' := [(2, .int 1), (3, .int 1), (0, .ref this), (1, .int a0)]) hx hb dX12_keys_136 rfl hl (by decide) rfl (fun ls hl => ?_)
                  refine lv_iload_n hx hb dX12_keys_137 rfl (lv_at hl 0 rfl) ?_
                  refine lv_if_eq (tgt := 145) hx hb dX12_keys_138 (by decide) (fun c_1860 => absurd c_1860 (by decide)) (fun c_1860 => ?_)
                  refine lv_aload_n hx hb dX12_keys_141 rfl (lv_at hl 2 rfl) ?_
                  have hkn_1861 : (I_1839 393 this).toInt ≠ 0 := by omega
                  refine pk_v (va_runV (As := []) (rest := []) ⟨hx, hb, hml, hown, hts⟩ (s_X12_nextToken_x l D t σ I_1839 J_1840 r_1835 rj rq H.size tg hSH hG.1 this hL_this hK_this w_1776 hR_w_1776 hL_w_1776 hK_w_1776 hN_w_1776 hT_w_1776) (cwV 0 hts (tw_V tw_832 tw_833 tw_834 tw_5 tw_835) rfl rfl rfl cv_yX12_nextToken_0 ⟨Nat.le_of_ble_eq_true rfl, Nat.le_of_ble_eq_true rfl⟩) ⟨pq_blind, pq_recv hK hP hL_this hK_this (by decide) rfl, pq_pre hK hN hP hD⟩ rfl rfl hl.1 rfl (lv_room (Nat.le_of_ble_eq_true rfl)) dX12_keys_142 ⟨Nat.le_of_ble_eq_true rfl, Nat.le_of_ble_eq_true rfl⟩) hD hS hA (fun σ1 μ1 H locs hw_1863 hP hD hS => ?_)
                  obtain ⟨I_1864, J_1865, hu_1866, hg_1867, hp_1869, hp_1870, hp_1871, hfn_1872, hfr_1873⟩ := hw_1863
                  obtain ⟨hu_1866a, hu_1866b⟩ := Prod.mk.inj hu_1866
                  rw [hu_1866a, hu_1866b] at hP hD
                  replace hF := hF.trans (bv_n hfn_1872)
                  replace hFr := fr_tr hFr hfr_1873
                  have tt_1874 : (I_1864 391 this).toInt ≤ 300 := by have z := hg_1867.1.1 391 this; exact z.2
                  have hG := GM.tr hG hg_1867 (by decide)
                  have tt_1875 : (I_1864 397 this).toInt = (I_1839 397 this).toInt := by rw [hg_1867.2.1 397 (by decide) (by decide)]
                  refine lv_goto (tgt := 11) hx hb dX12_keys_145 (by decide) ?_
                  exact ih_1532 (1 : Int32) I_1864 J_1865 r_1835 _ _ _ (rg_w (rg_k (1 : Int32) 1 rfl) (by decide)) (by have k0 : (1 : Int32).toInt = 1 := rfl; omega) (fun j hj => by rw [er_1835, va_up_self, upd_off (by have z0 := clampE x_1828; omega)]; exact (show ∀ j : Nat, (j : Int) < a0.toInt + 4 ∨ a0.toInt + 12 ≤ (j : Int) → r_1827 this_a j = ri this_a j from (fun j hj => by rw [er_1827, va_up_self, upd_off (by have z0 := clampE x_1814; omega)]; exact (show ∀ j : Nat, (j : Int) < a0.toInt + 4 ∨ a0.toInt + 12 ≤ (j : Int) → ri_1225 this_a j = ri this_a j from hrel_1539) j hj)) j hj) (Int.le_of_lt (Int.lt_of_lt_of_le (Int.lt_trans (tm_lt hkn_1861 hp_1869 hp_1870) (Int.lt_trans (tm_lt hkn_1836 hp_1844 hp_1845) (tm_lt hkn_1775 hp_1784 hp_1785))) hrel_1540)) (tm_ms hm_1529 (Int.lt_trans (tm_lt hkn_1861 hp_1869 hp_1870) (Int.lt_trans (tm_lt hkn_1836 hp_1844 hp_1845) (tm_lt hkn_1775 hp_1784 hp_1785))) (tm_b ((hG.1.1 391 this).2))) hF hFr hG hP hD hS (lv_sub hl [2, 3, 0] rfl)
              · replace hF := hF.trans (if_neg c_1799)
                have tc_1876 : (x_1791).toInt < 0 := Int32.lt_iff_toInt_lt.mp (nle c_1799)
                have h_1877 : rg x_1791 (-1) (-1) := rg_lt1 (nle c_1799) hr_1795 (rg_k (0 : Int32) 0 rfl) (by decide)
                have uh_1877 := h_1877.1
                have vh_1877 := h_1877.2
                refine lv_iconst (v := 1) hx hb dX12_keys_70 (by decide) ?_
                subst hQ
                exact W.iret (v := 1) hx hb hr (fun t1 ht hW => ⟨⟨1, (σ, I_1779, J_1780, ri_1225, rj, rq), rfl, ⟨I_1779, J_1780, ri_1225, rfl, hG, (by omega), hrel_1539, (Int.le_of_lt (Int.lt_of_lt_of_le (tm_lt hkn_1775 hp_1784 hp_1785) hrel_1540)), (hF0.symm.trans hF), hFr, (rg_w (rg_k (1 : Int32) 1 rfl) (by decide))⟩, by rw [ht]; exact hP, va_K.moved hW.alike hK, hD⟩, hS.F ht⟩) hS.2.2 dX12_keys_71
            · replace hF := hF.trans (if_pos c_1767)
              have tc_1878 : (x_1765).toInt = 4 := congrArg Int32.toInt c_1767
              have h_1879 : rg x_1765 4 4 := rg_and h_1766 (rg_of_eq c_1767 (rg_k (4 : Int32) 4 rfl)) (by decide)
              have uh_1879 := h_1879.1
              have vh_1879 := h_1879.2
              refine lv_iconst (v := 5) hx hb dX12_keys_53 (by decide) ?_
              subst hQ
              exact W.iret (v := 5) hx hb hr (fun t1 ht hW => ⟨⟨5, (σ, I_1223, J_1224, ri_1225, rj, rq), rfl, ⟨I_1223, J_1224, ri_1225, rfl, hG, (by omega), hrel_1539, hrel_1540, (hF0.symm.trans hF), hFr, (rg_w (rg_k (5 : Int32) 5 rfl) (by decide))⟩, by rw [ht]; exact hP, va_K.moved hW.alike hK, hD⟩, hS.F ht⟩) hS.2.2 dX12_keys_54
    replace hF := hF.trans (ap_n (vI_e (f := 391) hO_this (by decide)))
    replace hF := hF.trans (ap_n (vI_e (f := 393) hO_this (by decide)))
    exact L_1531 _ (1 : Int32) I J r_4 _ _ _ (rg_w (rg_k (1 : Int32) 1 rfl) (by decide)) (by have k0 : (1 : Int32).toInt = 1 := rfl; omega) (fun j hj => by rw [er_4, va_up_self, upd_off (by have z0 := clampE x_2; omega)]) (Int.le_refl _) (Nat.lt_succ_self _) hF hFr hG hP hD hS (lv_sub hl [1, 2, 0] rfl)
  exact go _ _ _ hP hD hS hl
