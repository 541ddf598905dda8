theorem lc_40 {L t N kc ks : Nat} {xs : Nat → Int32} {h : Hp_} (hL : 6 * t + 6 ≤ L) (lL : L ≤ 3072) (L0 : Li N h) (R : Rm t N kc ks) (O : ∀ N kc ks h, Li N h → Rm (t + 1) N kc ks → AW (ML L xs) kc ks 2406 (lv5 (6 * t)) [] h k1_) : AW (ML L xs) kc ks 1815 (lv5 (6 * t)) [] h k1_ := by
  have hk := R.ok (by omega)
  refine aw_aload_n (i := 1) rfl d_L_1815 1 rfl ?_
  refine aw_arg (j := 1) d_L_1816 d_L_1817 d_L_1819 d_L_1820 d_L_1821 ic_1 (oa_1 (by omega)) (by omega) lL ?_
  refine aw_Kp (M' := m_X11_safe (0 + 9) 0 0) (a := 0) [.int (xs (6 * t + 1))] (hc_X11_safe 0) ⟨⟨_, rfl, rtop_in _, fun _ y => (nomatch y)⟩, rfl, trivial⟩ L0.1 (fun _ y => (nomatch y)) d_L_1822 (cV_X11_safe (0 + 9) 0 0) kc_11 (ws_0 L0.1.1) tw_1438 rfl ⟨⟨show 0 + 9 + 1 ≤ 2048 from by decide, show 8 + (2 + 11) + 100 * (0 + 9) ≤ 84000 from by decide⟩, rfl, rfl⟩ ⟨show kc ≤ 494584 by omega, show ks ≤ 7612352 by omega⟩ ⟨_, rfl⟩ d_L_1825 (fun h1 I1 F1 => ?_)
  have L1 := L0.fr I1 F1 (by decide +kernel)
  refine aw_aload_n (i := 2) rfl d_L_1826 2 rfl ?_
  refine aw_arg (j := 1) d_L_1827 d_L_1828 d_L_1830 d_L_1831 d_L_1832 ic_1 (oa_1 (by omega)) (by omega) lL ?_
  refine aw_Kp (M' := m_X12_safe (0 + 8) 0 0) (a := 1) [.int (xs (6 * t + 1))] (hc_X12_safe 0) ⟨⟨_, rfl, rtop_in _, fun _ y => (nomatch y)⟩, rfl, trivial⟩ L1.1 (fun _ y => (nomatch y)) d_L_1833 (cV_X12_safe (0 + 8) 0 0) kc_12 (ws_1 L1.1.1) tw_2607 rfl ⟨⟨show 0 + 8 + 1 ≤ 2048 from by decide, show 8 + (2 + 11) + 100 * (0 + 8) ≤ 84000 from by decide⟩, rfl, rfl⟩ ⟨show kc ≤ 494584 by omega, show ks ≤ 7612352 by omega⟩ ⟨_, rfl⟩ d_L_1836 (fun h2 I2 F2 => ?_)
  have L2 := L1.fr I2 F2 (by decide +kernel)
  refine aw_goto (tgt := 2406) d_L_1837 rfl ?_
  exact O _ _ _ _ L2 R.up
theorem lc_41 {L t N kc ks : Nat} {xs : Nat → Int32} {h : Hp_} (hL : 6 * t + 6 ≤ L) (lL : L ≤ 3072) (L0 : Li N h) (R : Rm t N kc ks) (O : ∀ N kc ks h, Li N h → Rm (t + 1) N kc ks → AW (ML L xs) kc ks 2406 (lv5 (6 * t)) [] h k1_) : AW (ML L xs) kc ks 1840 (lv5 (6 * t)) [] h k1_ := by
  have hk := R.ok (by omega)
  refine aw_aload_n (i := 1) rfl d_L_1840 1 rfl ?_
  refine aw_arg (j := 1) d_L_1841 d_L_1842 d_L_1844 d_L_1845 d_L_1846 ic_1 (oa_1 (by omega)) (by omega) lL ?_
  refine aw_arg (j := 2) d_L_1847 d_L_1848 d_L_1850 d_L_1851 d_L_1852 ic_2 (oa_2 (by omega)) (by omega) lL ?_
  refine aw_Kp (M' := m_X11_share (0 + 9) 0 0) (a := 0) [.int (xs (6 * t + 1)), .int (xs (6 * t + 2))] (hc_X11_share 0) ⟨⟨_, rfl, rtop_in _, fun _ y => (nomatch y)⟩, ⟨_, rfl, rtop_in _, fun _ y => (nomatch y)⟩, rfl, trivial⟩ L0.1 (fun _ y => (nomatch y)) d_L_1853 (cV_X11_share (0 + 9) 0 0) kc_11 (ws_0 L0.1.1) tw_1470 rfl ⟨⟨show 0 + 9 + 1 ≤ 2048 from by decide, show 8 + (3 + 11) + 100 * (0 + 9) ≤ 84000 from by decide⟩, rfl, rfl⟩ ⟨show kc ≤ 494584 by omega, show ks ≤ 7612352 by omega⟩ ⟨_, rfl⟩ d_L_1856 (fun h1 I1 F1 => ?_)
  have L1 := L0.fr I1 F1 (by decide +kernel)
  refine aw_aload_n (i := 2) rfl d_L_1857 2 rfl ?_
  refine aw_arg (j := 1) d_L_1858 d_L_1859 d_L_1861 d_L_1862 d_L_1863 ic_1 (oa_1 (by omega)) (by omega) lL ?_
  refine aw_arg (j := 2) d_L_1864 d_L_1865 d_L_1867 d_L_1868 d_L_1869 ic_2 (oa_2 (by omega)) (by omega) lL ?_
  refine aw_Kp (M' := m_X12_share (0 + 8) 0 0) (a := 1) [.int (xs (6 * t + 1)), .int (xs (6 * t + 2))] (hc_X12_share 0) ⟨⟨_, rfl, rtop_in _, fun _ y => (nomatch y)⟩, ⟨_, rfl, rtop_in _, fun _ y => (nomatch y)⟩, rfl, trivial⟩ L1.1 (fun _ y => (nomatch y)) d_L_1870 (cV_X12_share (0 + 8) 0 0) kc_12 (ws_1 L1.1.1) tw_2623 rfl ⟨⟨show 0 + 8 + 1 ≤ 2048 from by decide, show 8 + (4 + 11) + 100 * (0 + 8) ≤ 84000 from by decide⟩, rfl, rfl⟩ ⟨show kc ≤ 494584 by omega, show ks ≤ 7612352 by omega⟩ ⟨_, rfl⟩ d_L_1873 (fun h2 I2 F2 => ?_)
  have L2 := L1.fr I2 F2 (by decide +kernel)
  refine aw_goto (tgt := 2406) d_L_1874 rfl ?_
  exact O _ _ _ _ L2 R.up
theorem lc_42 {L t N kc ks : Nat} {xs : Nat → Int32} {h : Hp_} (hL : 6 * t + 6 ≤ L) (lL : L ≤ 3072) (L0 : Li N h) (R : Rm t N kc ks) (O : ∀ N kc ks h, Li N h → Rm (t + 1) N kc ks → AW (ML L xs) kc ks 2406 (lv5 (6 * t)) [] h k1_) : AW (ML L xs) kc ks 1877 (lv5 (6 * t)) [] h k1_ := by
  have hk := R.ok (by omega)
  refine aw_aload_n (i := 1) rfl d_L_1877 1 rfl ?_
  refine aw_arg (j := 1) d_L_1878 d_L_1879 d_L_1881 d_L_1882 d_L_1883 ic_1 (oa_1 (by omega)) (by omega) lL ?_
  refine aw_arg (j := 2) d_L_1884 d_L_1885 d_L_1887 d_L_1888 d_L_1889 ic_2 (oa_2 (by omega)) (by omega) lL ?_
  refine aw_arg (j := 3) d_L_1890 d_L_1891 d_L_1893 d_L_1894 d_L_1895 ic_3 (oa_3 (by omega)) (by omega) lL ?_
  refine aw_Kp (M' := m_X11_fair (0 + 1) 0 0) (a := 0) [.int (xs (6 * t + 1)), .int (xs (6 * t + 2)), .int (xs (6 * t + 3))] (hc_X11_fair 0) ⟨⟨_, rfl, rtop_in _, fun _ y => (nomatch y)⟩, ⟨_, rfl, rtop_in _, fun _ y => (nomatch y)⟩, ⟨_, rfl, rtop_in _, fun _ y => (nomatch y)⟩, rfl, trivial⟩ L0.1 (fun _ y => (nomatch y)) d_L_1896 (cV_X11_fair (0 + 1) 0 0) kc_11 (ws_0 L0.1.1) tw_1480 rfl ⟨⟨show 0 + 1 + 1 ≤ 2048 from by decide, show 8 + (4 + 11) + 100 * (0 + 1) ≤ 84000 from by decide⟩, rfl, rfl⟩ ⟨show kc ≤ 494584 by omega, show ks ≤ 7612352 by omega⟩ ⟨_, rfl⟩ d_L_1899 (fun h1 I1 F1 => ?_)
  have L1 := L0.fr I1 F1 (by decide +kernel)
  refine aw_aload_n (i := 2) rfl d_L_1900 2 rfl ?_
  refine aw_arg (j := 1) d_L_1901 d_L_1902 d_L_1904 d_L_1905 d_L_1906 ic_1 (oa_1 (by omega)) (by omega) lL ?_
  refine aw_arg (j := 2) d_L_1907 d_L_1908 d_L_1910 d_L_1911 d_L_1912 ic_2 (oa_2 (by omega)) (by omega) lL ?_
  refine aw_arg (j := 3) d_L_1913 d_L_1914 d_L_1916 d_L_1917 d_L_1918 ic_3 (oa_3 (by omega)) (by omega) lL ?_
  refine aw_Kp (M' := m_X12_fair (0 + 2) 0 0) (a := 1) [.int (xs (6 * t + 1)), .int (xs (6 * t + 2)), .int (xs (6 * t + 3))] (hc_X12_fair 0) ⟨⟨_, rfl, rtop_in _, fun _ y => (nomatch y)⟩, ⟨_, rfl, rtop_in _, fun _ y => (nomatch y)⟩, ⟨_, rfl, rtop_in _, fun _ y => (nomatch y)⟩, rfl, trivial⟩ L1.1 (fun _ y => (nomatch y)) d_L_1919 (cV_X12_fair (0 + 2) 0 0) kc_12 (ws_1 L1.1.1) tw_2627 rfl ⟨⟨show 0 + 2 + 1 ≤ 2048 from by decide, show 8 + (4 + 11) + 100 * (0 + 2) ≤ 84000 from by decide⟩, rfl, rfl⟩ ⟨show kc ≤ 494584 by omega, show ks ≤ 7612352 by omega⟩ ⟨_, rfl⟩ d_L_1922 (fun h2 I2 F2 => ?_)
  have L2 := L1.fr I2 F2 (by decide +kernel)
  refine aw_goto (tgt := 2406) d_L_1923 rfl ?_
  exact O _ _ _ _ L2 R.up
theorem lc_43 {L t N kc ks : Nat} {xs : Nat → Int32} {h : Hp_} (hL : 6 * t + 6 ≤ L) (lL : L ≤ 3072) (L0 : Li N h) (R : Rm t N kc ks) (O : ∀ N kc ks h, Li N h → Rm (t + 1) N kc ks → AW (ML L xs) kc ks 2406 (lv5 (6 * t)) [] h k1_) : AW (ML L xs) kc ks 1926 (lv5 (6 * t)) [] h k1_ := by
  have hk := R.ok (by omega)
  refine aw_aload_n (i := 1) rfl d_L_1926 1 rfl ?_
  refine aw_arg (j := 1) d_L_1927 d_L_1928 d_L_1930 d_L_1931 d_L_1932 ic_1 (oa_1 (by omega)) (by omega) lL ?_
  refine aw_Kp (M' := m_X11_lending (0 + 5) 0 0) (a := 0) [.int (xs (6 * t + 1))] (hc_X11_lending 0) ⟨⟨_, rfl, rtop_in _, fun _ y => (nomatch y)⟩, rfl, trivial⟩ L0.1 (fun _ y => (nomatch y)) d_L_1933 (cV_X11_lending (0 + 5) 0 0) kc_11 (ws_0 L0.1.1) tw_1488 rfl ⟨⟨show 0 + 5 + 1 ≤ 2048 from by decide, show 8 + (2 + 11) + 100 * (0 + 5) ≤ 84000 from by decide⟩, rfl, rfl⟩ ⟨show kc ≤ 494584 by omega, show ks ≤ 7612352 by omega⟩ ⟨_, rfl⟩ d_L_1936 (fun h1 I1 F1 => ?_)
  have L1 := L0.fr I1 F1 (by decide +kernel)
  refine aw_aload_n (i := 2) rfl d_L_1937 2 rfl ?_
  refine aw_arg (j := 1) d_L_1938 d_L_1939 d_L_1941 d_L_1942 d_L_1943 ic_1 (oa_1 (by omega)) (by omega) lL ?_
  refine aw_Kp (M' := m_X12_lending (0 + 3) 0 0) (a := 1) [.int (xs (6 * t + 1))] (hc_X12_lending 0) ⟨⟨_, rfl, rtop_in _, fun _ y => (nomatch y)⟩, rfl, trivial⟩ L1.1 (fun _ y => (nomatch y)) d_L_1944 (cV_X12_lending (0 + 3) 0 0) kc_12 (ws_1 L1.1.1) tw_2635 rfl ⟨⟨show 0 + 3 + 1 ≤ 2048 from by decide, show 8 + (3 + 11) + 100 * (0 + 3) ≤ 84000 from by decide⟩, rfl, rfl⟩ ⟨show kc ≤ 494584 by omega, show ks ≤ 7612352 by omega⟩ ⟨_, rfl⟩ d_L_1947 (fun h2 I2 F2 => ?_)
  have L2 := L1.fr I2 F2 (by decide +kernel)
  refine aw_goto (tgt := 2406) d_L_1948 rfl ?_
  exact O _ _ _ _ L2 R.up
theorem lc_44 {L t N kc ks : Nat} {xs : Nat → Int32} {h : Hp_} (hL : 6 * t + 6 ≤ L) (lL : L ≤ 3072) (L0 : Li N h) (R : Rm t N kc ks) (O : ∀ N kc ks h, Li N h → Rm (t + 1) N kc ks → AW (ML L xs) kc ks 2406 (lv5 (6 * t)) [] h k1_) : AW (ML L xs) kc ks 1951 (lv5 (6 * t)) [] h k1_ := by
  have hk := R.ok (by omega)
  refine aw_aload_n (i := 1) rfl d_L_1951 1 rfl ?_
  refine aw_arg (j := 1) d_L_1952 d_L_1953 d_L_1955 d_L_1956 d_L_1957 ic_1 (oa_1 (by omega)) (by omega) lL ?_
  refine aw_Kp (M' := m_X11_lent (0 + 5) 0 0) (a := 0) [.int (xs (6 * t + 1))] (hc_X11_lent 0) ⟨⟨_, rfl, rtop_in _, fun _ y => (nomatch y)⟩, rfl, trivial⟩ L0.1 (fun _ y => (nomatch y)) d_L_1958 (cV_X11_lent (0 + 5) 0 0) kc_11 (ws_0 L0.1.1) tw_1545 rfl ⟨⟨show 0 + 5 + 1 ≤ 2048 from by decide, show 8 + (2 + 11) + 100 * (0 + 5) ≤ 84000 from by decide⟩, rfl, rfl⟩ ⟨show kc ≤ 494584 by omega, show ks ≤ 7612352 by omega⟩ ⟨_, rfl⟩ d_L_1961 (fun h1 I1 F1 => ?_)
  have L1 := L0.fr I1 F1 (by decide +kernel)
  refine aw_aload_n (i := 2) rfl d_L_1962 2 rfl ?_
  refine aw_arg (j := 1) d_L_1963 d_L_1964 d_L_1966 d_L_1967 d_L_1968 ic_1 (oa_1 (by omega)) (by omega) lL ?_
  refine aw_Kp (M' := m_X12_lent (0 + 3) 0 0) (a := 1) [.int (xs (6 * t + 1))] (hc_X12_lent 0) ⟨⟨_, rfl, rtop_in _, fun _ y => (nomatch y)⟩, rfl, trivial⟩ L1.1 (fun _ y => (nomatch y)) d_L_1969 (cV_X12_lent (0 + 3) 0 0) kc_12 (ws_1 L1.1.1) tw_2656 rfl ⟨⟨show 0 + 3 + 1 ≤ 2048 from by decide, show 8 + (8 + 11) + 100 * (0 + 3) ≤ 84000 from by decide⟩, rfl, rfl⟩ ⟨show kc ≤ 494584 by omega, show ks ≤ 7612352 by omega⟩ ⟨_, rfl⟩ d_L_1972 (fun h2 I2 F2 => ?_)
  have L2 := L1.fr I2 F2 (by decide +kernel)
  refine aw_goto (tgt := 2406) d_L_1973 rfl ?_
  exact O _ _ _ _ L2 R.up
theorem lc_45 {L t N kc ks : Nat} {xs : Nat → Int32} {h : Hp_} (hL : 6 * t + 6 ≤ L) (lL : L ≤ 3072) (L0 : Li N h) (R : Rm t N kc ks) (O : ∀ N kc ks h, Li N h → Rm (t + 1) N kc ks → AW (ML L xs) kc ks 2406 (lv5 (6 * t)) [] h k1_) : AW (ML L xs) kc ks 1976 (lv5 (6 * t)) [] h k1_ := by
  have hk := R.ok (by omega)
  refine aw_aload_n (i := 1) rfl d_L_1976 1 rfl ?_
  refine aw_Kv (M' := m_X11_fairs (0 + 1) 0 0) (a := 0) [] (hc_X11_fairs 0) ⟨rfl, trivial⟩ L0.1 (fun _ y => (nomatch y)) d_L_1977 (cV_X11_fairs (0 + 1) 0 0) kc_11 (ws_0 L0.1.1) tw_1553 rfl ⟨⟨show 0 + 1 + 1 ≤ 2048 from by decide, show 8 + (1 + 11) + 100 * (0 + 1) ≤ 84000 from by decide⟩, rfl, rfl⟩ ⟨show kc ≤ 494584 by omega, show ks ≤ 7612352 by omega⟩ rfl (fun h1 I1 F1 => ?_)
  have L1 := L0.fr I1 F1 (by decide +kernel)
  refine aw_aload_n (i := 2) rfl d_L_1980 2 rfl ?_
  refine aw_Kv (M' := m_X12_fairs (0 + 0) 0 0) (a := 1) [] (hc_X12_fairs 0) ⟨rfl, trivial⟩ L1.1 (fun _ y => (nomatch y)) d_L_1981 (cV_X12_fairs (0 + 0) 0 0) kc_12 (ws_1 L1.1.1) tw_2631 rfl ⟨⟨show 0 + 0 + 1 ≤ 2048 from by decide, show 8 + (1 + 11) + 100 * (0 + 0) ≤ 84000 from by decide⟩, rfl, rfl⟩ ⟨show kc ≤ 494584 by omega, show ks ≤ 7612352 by omega⟩ rfl (fun h2 I2 F2 => ?_)
  have L2 := L1.fr I2 F2 (by decide +kernel)
  refine aw_goto (tgt := 2406) d_L_1984 rfl ?_
  exact O _ _ _ _ L2 R.up
theorem lc_46 {L t N kc ks : Nat} {xs : Nat → Int32} {h : Hp_} (hL : 6 * t + 6 ≤ L) (lL : L ≤ 3072) (L0 : Li N h) (R : Rm t N kc ks) (O : ∀ N kc ks h, Li N h → Rm (t + 1) N kc ks → AW (ML L xs) kc ks 2406 (lv5 (6 * t)) [] h k1_) : AW (ML L xs) kc ks 1987 (lv5 (6 * t)) [] h k1_ := by
  have hk := R.ok (by omega)
  refine aw_aload_n (i := 1) rfl d_L_1987 1 rfl ?_
  refine aw_arg (j := 1) d_L_1988 d_L_1989 d_L_1991 d_L_1992 d_L_1993 ic_1 (oa_1 (by omega)) (by omega) lL ?_
  refine aw_Vi 0 [.int (xs (6 * t + 1))] [] d_L_1994 (cV_X11_pay (0 + 141) 0 0) kc_11 (ws_0 L0.1.1) tw_1561 rfl ⟨⟨show 0 + 141 + 1 ≤ 2048 from by decide, show 8 + (2 + 11) + 100 * (0 + 141) ≤ 84000 from by decide⟩, show kc + 0 ≤ 494584 by omega, show ks + 0 ≤ 7612352 by omega⟩ (Nat.le_of_ble_eq_true rfl) xsL (c_paX 0 L0.1 _) (fun r1 h1 k1 => ?_)
  refine aw_pop d_L_1997 rfl ?_
  refine aw_aload_n (i := 2) rfl d_L_1998 2 rfl ?_
  refine aw_arg (j := 1) d_L_1999 d_L_2000 d_L_2002 d_L_2003 d_L_2004 ic_1 (oa_1 (by omega)) (by omega) lL ?_
  refine aw_Vi 1 [.int (xs (6 * t + 1))] [] d_L_2005 (cV_X12_pay (0 + 80 + 61) 0 0) kc_12 (ws_1 k1.1.1) tw_2300 rfl ⟨⟨show 0 + 80 + 61 + 1 ≤ 2048 from by decide, show 8 + (2 + 11) + 100 * (0 + 80 + 61) ≤ 84000 from by decide⟩, show kc + 0 ≤ 494584 by omega, show ks + 0 ≤ 7612352 by omega⟩ (Nat.le_of_ble_eq_true rfl) xsL (c_paM 0 k1.1 (L0.t.q k1.2.1 (by decide +kernel)) _) (fun r2 h2 k2 => ?_)
  refine aw_pop d_L_2008 rfl ?_
  have L2 := (L0.pa k1 k2).1
  refine aw_goto (tgt := 2406) d_L_2009 rfl ?_
  exact O _ _ _ _ L2 R.up
theorem lc_47 {L t N kc ks : Nat} {xs : Nat → Int32} {h : Hp_} (hL : 6 * t + 6 ≤ L) (lL : L ≤ 3072) (L0 : Li N h) (R : Rm t N kc ks) (O : ∀ N kc ks h, Li N h → Rm (t + 1) N kc ks → AW (ML L xs) kc ks 2406 (lv5 (6 * t)) [] h k1_) : AW (ML L xs) kc ks 2012 (lv5 (6 * t)) [] h k1_ := by
  have hk := R.ok (by omega)
  refine aw_aload_n (i := 1) rfl d_L_2012 1 rfl ?_
  refine aw_arg (j := 1) d_L_2013 d_L_2014 d_L_2016 d_L_2017 d_L_2018 ic_1 (oa_1 (by omega)) (by omega) lL ?_
  refine aw_arg (j := 2) d_L_2019 d_L_2020 d_L_2022 d_L_2023 d_L_2024 ic_2 (oa_2 (by omega)) (by omega) lL ?_
  refine aw_arg (j := 3) d_L_2025 d_L_2026 d_L_2028 d_L_2029 d_L_2030 ic_3 (oa_3 (by omega)) (by omega) lL ?_
  refine aw_Vi 0 [.int (xs (6 * t + 1)), .int (xs (6 * t + 2)), .int (xs (6 * t + 3))] [] d_L_2031 (cV_X11_rank (0 + 3) 0 0) kc_11 (ws_0 L0.1.1) tw_1565 rfl ⟨⟨show 0 + 3 + 1 ≤ 2048 from by decide, show 8 + (4 + 11) + 100 * (0 + 3) ≤ 84000 from by decide⟩, show kc + 0 ≤ 494584 by omega, show ks + 0 ≤ 7612352 by omega⟩ (Nat.le_of_ble_eq_true rfl) xsL (c_rnX 0 L0.1 L0.t.2.2.2.2.2.1 _ _ _) (fun r1 h1 k1 => ?_)
  refine aw_pop d_L_2034 rfl ?_
  refine aw_aload_n (i := 2) rfl d_L_2035 2 rfl ?_
  refine aw_arg (j := 1) d_L_2036 d_L_2037 d_L_2039 d_L_2040 d_L_2041 ic_1 (oa_1 (by omega)) (by omega) lL ?_
  refine aw_arg (j := 2) d_L_2042 d_L_2043 d_L_2045 d_L_2046 d_L_2047 ic_2 (oa_2 (by omega)) (by omega) lL ?_
  refine aw_arg (j := 3) d_L_2048 d_L_2049 d_L_2051 d_L_2052 d_L_2053 ic_3 (oa_3 (by omega)) (by omega) lL ?_
  refine aw_Vi 1 [.int (xs (6 * t + 1)), .int (xs (6 * t + 2)), .int (xs (6 * t + 3))] [] d_L_2054 (cV_X12_rank (0 + 2) 0 0) kc_12 (ws_1 k1.1.1) tw_2159 rfl ⟨⟨show 0 + 2 + 1 ≤ 2048 from by decide, show 8 + (4 + 11) + 100 * (0 + 2) ≤ 84000 from by decide⟩, show kc + 0 ≤ 494584 by omega, show ks + 0 ≤ 7612352 by omega⟩ (Nat.le_of_ble_eq_true rfl) xsL (c_rnM 0 k1.1 _ _ _) (fun r2 h2 k2 => ?_)
  refine aw_pop d_L_2057 rfl ?_
  have L2 := (L0.rn k1 k2).1
  refine aw_goto (tgt := 2406) d_L_2058 rfl ?_
  exact O _ _ _ _ L2 R.up
theorem lc_48 {L t N kc ks : Nat} {xs : Nat → Int32} {h : Hp_} (hL : 6 * t + 6 ≤ L) (lL : L ≤ 3072) (L0 : Li N h) (R : Rm t N kc ks) (O : ∀ N kc ks h, Li N h → Rm (t + 1) N kc ks → AW (ML L xs) kc ks 2406 (lv5 (6 * t)) [] h k1_) : AW (ML L xs) kc ks 2061 (lv5 (6 * t)) [] h k1_ := by
  have hk := R.ok (by omega)
  refine aw_aload_n (i := 1) rfl d_L_2061 1 rfl ?_
  refine aw_arg (j := 1) d_L_2062 d_L_2063 d_L_2065 d_L_2066 d_L_2067 ic_1 (oa_1 (by omega)) (by omega) lL ?_
  refine aw_arg (j := 2) d_L_2068 d_L_2069 d_L_2071 d_L_2072 d_L_2073 ic_2 (oa_2 (by omega)) (by omega) lL ?_
  refine aw_arg (j := 3) d_L_2074 d_L_2075 d_L_2077 d_L_2078 d_L_2079 ic_3 (oa_3 (by omega)) (by omega) lL ?_
  refine aw_Kp (M' := m_X11_ranked (0 + 2) 0 0) (a := 0) [.int (xs (6 * t + 1)), .int (xs (6 * t + 2)), .int (xs (6 * t + 3))] (hc_X11_ranked 0) ⟨⟨_, rfl, rtop_in _, fun _ y => (nomatch y)⟩, ⟨_, rfl, rtop_in _, fun _ y => (nomatch y)⟩, ⟨_, rfl, rtop_in _, fun _ y => (nomatch y)⟩, rfl, trivial⟩ L0.1 (fun _ y => (nomatch y)) d_L_2080 (cV_X11_ranked (0 + 2) 0 0) kc_11 (ws_0 L0.1.1) tw_1573 rfl ⟨⟨show 0 + 2 + 1 ≤ 2048 from by decide, show 8 + (5 + 11) + 100 * (0 + 2) ≤ 84000 from by decide⟩, rfl, rfl⟩ ⟨show kc ≤ 494584 by omega, show ks ≤ 7612352 by omega⟩ ⟨_, rfl⟩ d_L_2083 (fun h1 I1 F1 => ?_)
  have L1 := L0.fr I1 F1 (by decide +kernel)
  refine aw_aload_n (i := 2) rfl d_L_2084 2 rfl ?_
  refine aw_arg (j := 1) d_L_2085 d_L_2086 d_L_2088 d_L_2089 d_L_2090 ic_1 (oa_1 (by omega)) (by omega) lL ?_
  refine aw_arg (j := 2) d_L_2091 d_L_2092 d_L_2094 d_L_2095 d_L_2096 ic_2 (oa_2 (by omega)) (by omega) lL ?_
  refine aw_arg (j := 3) d_L_2097 d_L_2098 d_L_2100 d_L_2101 d_L_2102 ic_3 (oa_3 (by omega)) (by omega) lL ?_
  refine aw_Kp (M' := m_X12_ranked (0 + 2) 0 0) (a := 1) [.int (xs (6 * t + 1)), .int (xs (6 * t + 2)), .int (xs (6 * t + 3))] (hc_X12_ranked 0) ⟨⟨_, rfl, rtop_in _, fun _ y => (nomatch y)⟩, ⟨_, rfl, rtop_in _, fun _ y => (nomatch y)⟩, ⟨_, rfl, rtop_in _, fun _ y => (nomatch y)⟩, rfl, trivial⟩ L1.1 (fun _ y => (nomatch y)) d_L_2103 (cV_X12_ranked (0 + 2) 0 0) kc_12 (ws_1 L1.1.1) tw_2167 rfl ⟨⟨show 0 + 2 + 1 ≤ 2048 from by decide, show 8 + (4 + 11) + 100 * (0 + 2) ≤ 84000 from by decide⟩, rfl, rfl⟩ ⟨show kc ≤ 494584 by omega, show ks ≤ 7612352 by omega⟩ ⟨_, rfl⟩ d_L_2106 (fun h2 I2 F2 => ?_)
  have L2 := L1.fr I2 F2 (by decide +kernel)
  refine aw_goto (tgt := 2406) d_L_2107 rfl ?_
  exact O _ _ _ _ L2 R.up
theorem lc_49 {L t N kc ks : Nat} {xs : Nat → Int32} {h : Hp_} (hL : 6 * t + 6 ≤ L) (lL : L ≤ 3072) (L0 : Li N h) (R : Rm t N kc ks) (O : ∀ N kc ks h, Li N h → Rm (t + 1) N kc ks → AW (ML L xs) kc ks 2406 (lv5 (6 * t)) [] h k1_) : AW (ML L xs) kc ks 2110 (lv5 (6 * t)) [] h k1_ := by
  have hk := R.ok (by omega)
  refine aw_aload_n (i := 1) rfl d_L_2110 1 rfl ?_
  refine aw_arg (j := 1) d_L_2111 d_L_2112 d_L_2114 d_L_2115 d_L_2116 ic_1 (oa_1 (by omega)) (by omega) lL ?_
  refine aw_arg (j := 2) d_L_2117 d_L_2118 d_L_2120 d_L_2121 d_L_2122 ic_2 (oa_2 (by omega)) (by omega) lL ?_
  refine aw_arg (j := 3) d_L_2123 d_L_2124 d_L_2126 d_L_2127 d_L_2128 ic_3 (oa_3 (by omega)) (by omega) lL ?_
  refine aw_Kp (M' := m_X11_paid (0 + 6) 0 0) (a := 0) [.int (xs (6 * t + 1)), .int (xs (6 * t + 2)), .int (xs (6 * t + 3))] (hc_X11_paid 0) ⟨⟨_, rfl, rtop_in _, fun _ y => (nomatch y)⟩, ⟨_, rfl, rtop_in _, fun _ y => (nomatch y)⟩, ⟨_, rfl, rtop_in _, fun _ y => (nomatch y)⟩, rfl, trivial⟩ L0.1 (fun _ y => (nomatch y)) d_L_2129 (cV_X11_paid (0 + 6) 0 0) kc_11 (ws_0 L0.1.1) tw_1577 rfl ⟨⟨show 0 + 6 + 1 ≤ 2048 from by decide, show 8 + (5 + 11) + 100 * (0 + 6) ≤ 84000 from by decide⟩, rfl, rfl⟩ ⟨show kc ≤ 494584 by omega, show ks ≤ 7612352 by omega⟩ ⟨_, rfl⟩ d_L_2132 (fun h1 I1 F1 => ?_)
  have L1 := L0.fr I1 F1 (by decide +kernel)
  refine aw_aload_n (i := 2) rfl d_L_2133 2 rfl ?_
  refine aw_arg (j := 1) d_L_2134 d_L_2135 d_L_2137 d_L_2138 d_L_2139 ic_1 (oa_1 (by omega)) (by omega) lL ?_
  refine aw_arg (j := 2) d_L_2140 d_L_2141 d_L_2143 d_L_2144 d_L_2145 ic_2 (oa_2 (by omega)) (by omega) lL ?_
  refine aw_arg (j := 3) d_L_2146 d_L_2147 d_L_2149 d_L_2150 d_L_2151 ic_3 (oa_3 (by omega)) (by omega) lL ?_
  refine aw_Kp (M' := m_X12_paid (0 + 7) 0 0) (a := 1) [.int (xs (6 * t + 1)), .int (xs (6 * t + 2)), .int (xs (6 * t + 3))] (hc_X12_paid 0) ⟨⟨_, rfl, rtop_in _, fun _ y => (nomatch y)⟩, ⟨_, rfl, rtop_in _, fun _ y => (nomatch y)⟩, ⟨_, rfl, rtop_in _, fun _ y => (nomatch y)⟩, rfl, trivial⟩ L1.1 (fun _ y => (nomatch y)) d_L_2152 (cV_X12_paid (0 + 7) 0 0) kc_12 (ws_1 L1.1.1) tw_2660 rfl ⟨⟨show 0 + 7 + 1 ≤ 2048 from by decide, show 8 + (4 + 11) + 100 * (0 + 7) ≤ 84000 from by decide⟩, rfl, rfl⟩ ⟨show kc ≤ 494584 by omega, show ks ≤ 7612352 by omega⟩ ⟨_, rfl⟩ d_L_2155 (fun h2 I2 F2 => ?_)
  have L2 := L1.fr I2 F2 (by decide +kernel)
  refine aw_goto (tgt := 2406) d_L_2156 rfl ?_
  exact O _ _ _ _ L2 R.up
theorem lc_50 {L t N kc ks : Nat} {xs : Nat → Int32} {h : Hp_} (hL : 6 * t + 6 ≤ L) (lL : L ≤ 3072) (L0 : Li N h) (R : Rm t N kc ks) (O : ∀ N kc ks h, Li N h → Rm (t + 1) N kc ks → AW (ML L xs) kc ks 2406 (lv5 (6 * t)) [] h k1_) : AW (ML L xs) kc ks 2159 (lv5 (6 * t)) [] h k1_ := by
  have hk := R.ok (by omega)
  refine aw_aload_n (i := 1) rfl d_L_2159 1 rfl ?_
  refine aw_Kp (M' := m_X11_book (0 + 6) 0 0) (a := 0) [] (hc_X11_book 0) ⟨rfl, trivial⟩ L0.1 (fun _ y => (nomatch y)) d_L_2160 (cV_X11_book (0 + 6) 0 0) kc_11 (ws_0 L0.1.1) tw_1602 rfl ⟨⟨show 0 + 6 + 1 ≤ 2048 from by decide, show 8 + (4 + 11) + 100 * (0 + 6) ≤ 84000 from by decide⟩, rfl, rfl⟩ ⟨show kc ≤ 494584 by omega, show ks ≤ 7612352 by omega⟩ ⟨_, rfl⟩ d_L_2163 (fun h1 I1 F1 => ?_)
  have L1 := L0.fr I1 F1 (by decide +kernel)
  refine aw_aload_n (i := 2) rfl d_L_2164 2 rfl ?_
  refine aw_Vi 1 [] [] d_L_2165 (cV_X12_book (0 + 8) 0 0) kc_12 (ws_1 L1.1.1) tw_2668 rfl ⟨⟨show 0 + 8 + 1 ≤ 2048 from by decide, show 8 + (5 + 11) + 100 * (0 + 8) ≤ 84000 from by decide⟩, show kc + 0 ≤ 494584 by omega, show ks + 0 ≤ 7612352 by omega⟩ (Nat.le_of_ble_eq_true rfl) xsL (c_book 0 L1.1) (fun r2 h2 k2 => ?_)
  refine aw_pop d_L_2168 rfl ?_
  have L2 := L1.fr k2.1 k2.2 (by decide +kernel)
  refine aw_goto (tgt := 2406) d_L_2169 rfl ?_
  exact O _ _ _ _ L2 R.up
theorem lc_51 {L t N kc ks : Nat} {xs : Nat → Int32} {h : Hp_} (hL : 6 * t + 6 ≤ L) (lL : L ≤ 3072) (L0 : Li N h) (R : Rm t N kc ks) (O : ∀ N kc ks h, Li N h → Rm (t + 1) N kc ks → AW (ML L xs) kc ks 2406 (lv5 (6 * t)) [] h k1_) : AW (ML L xs) kc ks 2172 (lv5 (6 * t)) [] h k1_ := by
  have hk := R.ok (by omega)
  refine aw_aload_n (i := 1) rfl d_L_2172 1 rfl ?_
  refine aw_arg (j := 1) d_L_2173 d_L_2174 d_L_2176 d_L_2177 d_L_2178 ic_1 (oa_1 (by omega)) (by omega) lL ?_
  refine aw_arg (j := 2) d_L_2179 d_L_2180 d_L_2182 d_L_2183 d_L_2184 ic_2 (oa_2 (by omega)) (by omega) lL ?_
  refine aw_Kp (M' := m_X11_line (0 + 2) 0 0) (a := 0) [.int (xs (6 * t + 1)), .int (xs (6 * t + 2))] (hc_X11_line 0) ⟨⟨_, rfl, rtop_in _, fun _ y => (nomatch y)⟩, ⟨_, rfl, rtop_in _, fun _ y => (nomatch y)⟩, rfl, trivial⟩ L0.1 (fun _ y => (nomatch y)) d_L_2185 (cV_X11_line (0 + 2) 0 0) kc_11 (ws_0 L0.1.1) tw_1619 rfl ⟨⟨show 0 + 2 + 1 ≤ 2048 from by decide, show 8 + (3 + 11) + 100 * (0 + 2) ≤ 84000 from by decide⟩, rfl, rfl⟩ ⟨show kc ≤ 494584 by omega, show ks ≤ 7612352 by omega⟩ ⟨_, rfl⟩ d_L_2188 (fun h1 I1 F1 => ?_)
  have L1 := L0.fr I1 F1 (by decide +kernel)
  refine aw_aload_n (i := 2) rfl d_L_2189 2 rfl ?_
  refine aw_arg (j := 1) d_L_2190 d_L_2191 d_L_2193 d_L_2194 d_L_2195 ic_1 (oa_1 (by omega)) (by omega) lL ?_
  refine aw_arg (j := 2) d_L_2196 d_L_2197 d_L_2199 d_L_2200 d_L_2201 ic_2 (oa_2 (by omega)) (by omega) lL ?_
  refine aw_Kp (M' := m_X12_line (0 + 1) 0 0) (a := 1) [.int (xs (6 * t + 1)), .int (xs (6 * t + 2))] (hc_X12_line 0) ⟨⟨_, rfl, rtop_in _, fun _ y => (nomatch y)⟩, ⟨_, rfl, rtop_in _, fun _ y => (nomatch y)⟩, rfl, trivial⟩ L1.1 (fun _ y => (nomatch y)) d_L_2202 (cV_X12_line (0 + 1) 0 0) kc_12 (ws_1 L1.1.1) tw_2672 rfl ⟨⟨show 0 + 1 + 1 ≤ 2048 from by decide, show 8 + (3 + 11) + 100 * (0 + 1) ≤ 84000 from by decide⟩, rfl, rfl⟩ ⟨show kc ≤ 494584 by omega, show ks ≤ 7612352 by omega⟩ ⟨_, rfl⟩ d_L_2205 (fun h2 I2 F2 => ?_)
  have L2 := L1.fr I2 F2 (by decide +kernel)
  refine aw_goto (tgt := 2406) d_L_2206 rfl ?_
  exact O _ _ _ _ L2 R.up
theorem lc_52 {L t N kc ks : Nat} {xs : Nat → Int32} {h : Hp_} (hL : 6 * t + 6 ≤ L) (lL : L ≤ 3072) (L0 : Li N h) (R : Rm t N kc ks) (O : ∀ N kc ks h, Li N h → Rm (t + 1) N kc ks → AW (ML L xs) kc ks 2406 (lv5 (6 * t)) [] h k1_) : AW (ML L xs) kc ks 2209 (lv5 (6 * t)) [] h k1_ := by
  have hk := R.ok (by omega)
  refine aw_aload_n (i := 1) rfl d_L_2209 1 rfl ?_
  refine aw_arg (j := 1) d_L_2210 d_L_2211 d_L_2213 d_L_2214 d_L_2215 ic_1 (oa_1 (by omega)) (by omega) lL ?_
  refine aw_arg (j := 2) d_L_2216 d_L_2217 d_L_2219 d_L_2220 d_L_2221 ic_2 (oa_2 (by omega)) (by omega) lL ?_
  refine aw_arg (j := 3) d_L_2222 d_L_2223 d_L_2225 d_L_2226 d_L_2227 ic_3 (oa_3 (by omega)) (by omega) lL ?_
  refine aw_Kp (M' := m_X11_mark (0 + 3) 0 0) (a := 0) [.int (xs (6 * t + 1)), .int (xs (6 * t + 2)), .int (xs (6 * t + 3))] (hc_X11_mark 0) ⟨⟨_, rfl, rtop_in _, fun _ y => (nomatch y)⟩, ⟨_, rfl, rtop_in _, fun _ y => (nomatch y)⟩, ⟨_, rfl, rtop_in _, fun _ y => (nomatch y)⟩, rfl, trivial⟩ L0.1 (fun _ y => (nomatch y)) d_L_2228 (cV_X11_mark (0 + 3) 0 0) kc_11 (ws_0 L0.1.1) tw_1628 rfl ⟨⟨show 0 + 3 + 1 ≤ 2048 from by decide, show 8 + (4 + 11) + 100 * (0 + 3) ≤ 84000 from by decide⟩, rfl, rfl⟩ ⟨show kc ≤ 494584 by omega, show ks ≤ 7612352 by omega⟩ ⟨_, rfl⟩ d_L_2231 (fun h1 I1 F1 => ?_)
  have L1 := L0.fr I1 F1 (by decide +kernel)
  refine aw_aload_n (i := 2) rfl d_L_2232 2 rfl ?_
  refine aw_arg (j := 1) d_L_2233 d_L_2234 d_L_2236 d_L_2237 d_L_2238 ic_1 (oa_1 (by omega)) (by omega) lL ?_
  refine aw_arg (j := 2) d_L_2239 d_L_2240 d_L_2242 d_L_2243 d_L_2244 ic_2 (oa_2 (by omega)) (by omega) lL ?_
  refine aw_arg (j := 3) d_L_2245 d_L_2246 d_L_2248 d_L_2249 d_L_2250 ic_3 (oa_3 (by omega)) (by omega) lL ?_
  refine aw_Kp (M' := m_X12_mark (0 + 2) 0 0) (a := 1) [.int (xs (6 * t + 1)), .int (xs (6 * t + 2)), .int (xs (6 * t + 3))] (hc_X12_mark 0) ⟨⟨_, rfl, rtop_in _, fun _ y => (nomatch y)⟩, ⟨_, rfl, rtop_in _, fun _ y => (nomatch y)⟩, ⟨_, rfl, rtop_in _, fun _ y => (nomatch y)⟩, rfl, trivial⟩ L1.1 (fun _ y => (nomatch y)) d_L_2251 (cV_X12_mark (0 + 2) 0 0) kc_12 (ws_1 L1.1.1) tw_2677 rfl ⟨⟨show 0 + 2 + 1 ≤ 2048 from by decide, show 8 + (4 + 11) + 100 * (0 + 2) ≤ 84000 from by decide⟩, rfl, rfl⟩ ⟨show kc ≤ 494584 by omega, show ks ≤ 7612352 by omega⟩ ⟨_, rfl⟩ d_L_2254 (fun h2 I2 F2 => ?_)
  have L2 := L1.fr I2 F2 (by decide +kernel)
  refine aw_goto (tgt := 2406) d_L_2255 rfl ?_
  exact O _ _ _ _ L2 R.up
theorem lc_53 {L t N kc ks : Nat} {xs : Nat → Int32} {h : Hp_} (hL : 6 * t + 6 ≤ L) (lL : L ≤ 3072) (L0 : Li N h) (R : Rm t N kc ks) (O : ∀ N kc ks h, Li N h → Rm (t + 1) N kc ks → AW (ML L xs) kc ks 2406 (lv5 (6 * t)) [] h k1_) : AW (ML L xs) kc ks 2258 (lv5 (6 * t)) [] h k1_ := by
  have hk := R.ok (by omega)
  refine aw_aload_n (i := 1) rfl d_L_2258 1 rfl ?_
  refine aw_arg (j := 1) d_L_2259 d_L_2260 d_L_2262 d_L_2263 d_L_2264 ic_1 (oa_1 (by omega)) (by omega) lL ?_
  refine aw_Kp (M' := m_X11_size (0 + 1) 0 0) (a := 0) [.int (xs (6 * t + 1))] (hc_X11_size 0) ⟨⟨_, rfl, rtop_in _, fun _ y => (nomatch y)⟩, rfl, trivial⟩ L0.1 (fun _ y => (nomatch y)) d_L_2265 (cV_X11_size (0 + 1) 0 0) kc_11 (ws_0 L0.1.1) tw_1636 rfl ⟨⟨show 0 + 1 + 1 ≤ 2048 from by decide, show 8 + (2 + 11) + 100 * (0 + 1) ≤ 84000 from by decide⟩, rfl, rfl⟩ ⟨show kc ≤ 494584 by omega, show ks ≤ 7612352 by omega⟩ ⟨_, rfl⟩ d_L_2268 (fun h1 I1 F1 => ?_)
  have L1 := L0.fr I1 F1 (by decide +kernel)
  refine aw_aload_n (i := 2) rfl d_L_2269 2 rfl ?_
  refine aw_arg (j := 1) d_L_2270 d_L_2271 d_L_2273 d_L_2274 d_L_2275 ic_1 (oa_1 (by omega)) (by omega) lL ?_
  refine aw_Kp (M' := m_X12_size (0 + 1) 0 0) (a := 1) [.int (xs (6 * t + 1))] (hc_X12_size 0) ⟨⟨_, rfl, rtop_in _, fun _ y => (nomatch y)⟩, rfl, trivial⟩ L1.1 (fun _ y => (nomatch y)) d_L_2276 (cV_X12_size (0 + 1) 0 0) kc_12 (ws_1 L1.1.1) tw_2681 rfl ⟨⟨show 0 + 1 + 1 ≤ 2048 from by decide, show 8 + (2 + 11) + 100 * (0 + 1) ≤ 84000 from by decide⟩, rfl, rfl⟩ ⟨show kc ≤ 494584 by omega, show ks ≤ 7612352 by omega⟩ ⟨_, rfl⟩ d_L_2279 (fun h2 I2 F2 => ?_)
  have L2 := L1.fr I2 F2 (by decide +kernel)
  refine aw_goto (tgt := 2406) d_L_2280 rfl ?_
  exact O _ _ _ _ L2 R.up
theorem lc_54 {L t N kc ks : Nat} {xs : Nat → Int32} {h : Hp_} (hL : 6 * t + 6 ≤ L) (lL : L ≤ 3072) (L0 : Li N h) (R : Rm t N kc ks) (O : ∀ N kc ks h, Li N h → Rm (t + 1) N kc ks → AW (ML L xs) kc ks 2406 (lv5 (6 * t)) [] h k1_) : AW (ML L xs) kc ks 2283 (lv5 (6 * t)) [] h k1_ := by
  have hk := R.ok (by omega)
  refine aw_aload_n (i := 1) rfl d_L_2283 1 rfl ?_
  refine aw_arg (j := 1) d_L_2284 d_L_2285 d_L_2287 d_L_2288 d_L_2289 ic_1 (oa_1 (by omega)) (by omega) lL ?_
  refine aw_arg (j := 2) d_L_2290 d_L_2291 d_L_2293 d_L_2294 d_L_2295 ic_2 (oa_2 (by omega)) (by omega) lL ?_
  refine aw_Kp (M' := m_X11_habit (0 + 2) 0 0) (a := 0) [.int (xs (6 * t + 1)), .int (xs (6 * t + 2))] (hc_X11_habit 0) ⟨⟨_, rfl, rtop_in _, fun _ y => (nomatch y)⟩, ⟨_, rfl, rtop_in _, fun _ y => (nomatch y)⟩, rfl, trivial⟩ L0.1 (fun _ y => (nomatch y)) d_L_2296 (cV_X11_habit (0 + 2) 0 0) kc_11 (ws_0 L0.1.1) tw_1640 rfl ⟨⟨show 0 + 2 + 1 ≤ 2048 from by decide, show 8 + (3 + 11) + 100 * (0 + 2) ≤ 84000 from by decide⟩, rfl, rfl⟩ ⟨show kc ≤ 494584 by omega, show ks ≤ 7612352 by omega⟩ ⟨_, rfl⟩ d_L_2299 (fun h1 I1 F1 => ?_)
  have L1 := L0.fr I1 F1 (by decide +kernel)
  refine aw_aload_n (i := 2) rfl d_L_2300 2 rfl ?_
  refine aw_arg (j := 1) d_L_2301 d_L_2302 d_L_2304 d_L_2305 d_L_2306 ic_1 (oa_1 (by omega)) (by omega) lL ?_
  refine aw_arg (j := 2) d_L_2307 d_L_2308 d_L_2310 d_L_2311 d_L_2312 ic_2 (oa_2 (by omega)) (by omega) lL ?_
  refine aw_Kp (M' := m_X12_habit (0 + 1) 0 0) (a := 1) [.int (xs (6 * t + 1)), .int (xs (6 * t + 2))] (hc_X12_habit 0) ⟨⟨_, rfl, rtop_in _, fun _ y => (nomatch y)⟩, ⟨_, rfl, rtop_in _, fun _ y => (nomatch y)⟩, rfl, trivial⟩ L1.1 (fun _ y => (nomatch y)) d_L_2313 (cV_X12_habit (0 + 1) 0 0) kc_12 (ws_1 L1.1.1) tw_2685 rfl ⟨⟨show 0 + 1 + 1 ≤ 2048 from by decide, show 8 + (6 + 11) + 100 * (0 + 1) ≤ 84000 from by decide⟩, rfl, rfl⟩ ⟨show kc ≤ 494584 by omega, show ks ≤ 7612352 by omega⟩ ⟨_, rfl⟩ d_L_2316 (fun h2 I2 F2 => ?_)
  have L2 := L1.fr I2 F2 (by decide +kernel)
  refine aw_goto (tgt := 2406) d_L_2317 rfl ?_
  exact O _ _ _ _ L2 R.up
theorem lc_55 {L t N kc ks : Nat} {xs : Nat → Int32} {h : Hp_} (hL : 6 * t + 6 ≤ L) (lL : L ≤ 3072) (L0 : Li N h) (R : Rm t N kc ks) (O : ∀ N kc ks h, Li N h → Rm (t + 1) N kc ks → AW (ML L xs) kc ks 2406 (lv5 (6 * t)) [] h k1_) : AW (ML L xs) kc ks 2320 (lv5 (6 * t)) [] h k1_ := by
  have hk := R.ok (by omega)
  refine aw_aload_n (i := 1) rfl d_L_2320 1 rfl ?_
  refine aw_arg (j := 1) d_L_2321 d_L_2322 d_L_2324 d_L_2325 d_L_2326 ic_1 (oa_1 (by omega)) (by omega) lL ?_
  refine aw_arg (j := 2) d_L_2327 d_L_2328 d_L_2330 d_L_2331 d_L_2332 ic_2 (oa_2 (by omega)) (by omega) lL ?_
  refine aw_arg (j := 3) d_L_2333 d_L_2334 d_L_2336 d_L_2337 d_L_2338 ic_3 (oa_3 (by omega)) (by omega) lL ?_
  refine aw_arg (j := 4) d_L_2339 d_L_2340 d_L_2342 d_L_2343 d_L_2344 ic_4 (oa_4 (by omega)) (by omega) lL ?_
  refine aw_Kp (M' := m_X11_complain (0 + 3) 0 0) (a := 0) [.int (xs (6 * t + 1)), .int (xs (6 * t + 2)), .int (xs (6 * t + 3)), .int (xs (6 * t + 4))] (hc_X11_complain 0) ⟨⟨_, rfl, rtop_in _, fun _ y => (nomatch y)⟩, ⟨_, rfl, rtop_in _, fun _ y => (nomatch y)⟩, ⟨_, rfl, rtop_in _, fun _ y => (nomatch y)⟩, ⟨_, rfl, rtop_in _, fun _ y => (nomatch y)⟩, rfl, trivial⟩ L0.1 (fun _ y => (nomatch y)) d_L_2345 (cV_X11_complain (0 + 3) 0 0) kc_11 (ws_0 L0.1.1) tw_1649 rfl ⟨⟨show 0 + 3 + 1 ≤ 2048 from by decide, show 8 + (8 + 11) + 100 * (0 + 3) ≤ 84000 from by decide⟩, rfl, rfl⟩ ⟨show kc ≤ 494584 by omega, show ks ≤ 7612352 by omega⟩ ⟨_, rfl⟩ d_L_2348 (fun h1 I1 F1 => ?_)
  have L1 := L0.fr I1 F1 (by decide +kernel)
  refine aw_aload_n (i := 2) rfl d_L_2349 2 rfl ?_
  refine aw_arg (j := 1) d_L_2350 d_L_2351 d_L_2353 d_L_2354 d_L_2355 ic_1 (oa_1 (by omega)) (by omega) lL ?_
  refine aw_arg (j := 2) d_L_2356 d_L_2357 d_L_2359 d_L_2360 d_L_2361 ic_2 (oa_2 (by omega)) (by omega) lL ?_
  refine aw_arg (j := 3) d_L_2362 d_L_2363 d_L_2365 d_L_2366 d_L_2367 ic_3 (oa_3 (by omega)) (by omega) lL ?_
  refine aw_arg (j := 4) d_L_2368 d_L_2369 d_L_2371 d_L_2372 d_L_2373 ic_4 (oa_4 (by omega)) (by omega) lL ?_
  refine aw_Kp (M' := m_X12_complain (0 + 2) 0 0) (a := 1) [.int (xs (6 * t + 1)), .int (xs (6 * t + 2)), .int (xs (6 * t + 3)), .int (xs (6 * t + 4))] (hc_X12_complain 0) ⟨⟨_, rfl, rtop_in _, fun _ y => (nomatch y)⟩, ⟨_, rfl, rtop_in _, fun _ y => (nomatch y)⟩, ⟨_, rfl, rtop_in _, fun _ y => (nomatch y)⟩, ⟨_, rfl, rtop_in _, fun _ y => (nomatch y)⟩, rfl, trivial⟩ L1.1 (fun _ y => (nomatch y)) d_L_2374 (cV_X12_complain (0 + 2) 0 0) kc_12 (ws_1 L1.1.1) tw_2466 rfl ⟨⟨show 0 + 2 + 1 ≤ 2048 from by decide, show 8 + (7 + 11) + 100 * (0 + 2) ≤ 84000 from by decide⟩, rfl, rfl⟩ ⟨show kc ≤ 494584 by omega, show ks ≤ 7612352 by omega⟩ ⟨_, rfl⟩ d_L_2377 (fun h2 I2 F2 => ?_)
  have L2 := L1.fr I2 F2 (by decide +kernel)
  refine aw_goto (tgt := 2406) d_L_2378 rfl ?_
  exact O _ _ _ _ L2 R.up
theorem lc_56 {L t N kc ks : Nat} {xs : Nat → Int32} {h : Hp_} (hL : 6 * t + 6 ≤ L) (lL : L ≤ 3072) (L0 : Li N h) (R : Rm t N kc ks) (O : ∀ N kc ks h, Li N h → Rm (t + 1) N kc ks → AW (ML L xs) kc ks 2406 (lv5 (6 * t)) [] h k1_) : AW (ML L xs) kc ks 2381 (lv5 (6 * t)) [] h k1_ := by
  have hk := R.ok (by omega)
  refine aw_aload_n (i := 1) rfl d_L_2381 1 rfl ?_
  refine aw_arg (j := 1) d_L_2382 d_L_2383 d_L_2385 d_L_2386 d_L_2387 ic_1 (oa_1 (by omega)) (by omega) lL ?_
  refine aw_Kp (M' := m_X11_count (0 + 1) 0 0) (a := 0) [.int (xs (6 * t + 1))] (hc_X11_count 0) ⟨⟨_, rfl, rtop_in _, fun _ y => (nomatch y)⟩, rfl, trivial⟩ L0.1 (fun _ y => (nomatch y)) d_L_2388 (cV_X11_count (0 + 1) 0 0) kc_11 (ws_0 L0.1.1) tw_1653 rfl ⟨⟨show 0 + 1 + 1 ≤ 2048 from by decide, show 8 + (2 + 11) + 100 * (0 + 1) ≤ 84000 from by decide⟩, rfl, rfl⟩ ⟨show kc ≤ 494584 by omega, show ks ≤ 7612352 by omega⟩ ⟨_, rfl⟩ d_L_2391 (fun h1 I1 F1 => ?_)
  have L1 := L0.fr I1 F1 (by decide +kernel)
  refine aw_aload_n (i := 2) rfl d_L_2392 2 rfl ?_
  refine aw_arg (j := 1) d_L_2393 d_L_2394 d_L_2396 d_L_2397 d_L_2398 ic_1 (oa_1 (by omega)) (by omega) lL ?_
  refine aw_Kp (M' := m_X12_count (0 + 0) 0 0) (a := 1) [.int (xs (6 * t + 1))] (hc_X12_count 0) ⟨⟨_, rfl, rtop_in _, fun _ y => (nomatch y)⟩, rfl, trivial⟩ L1.1 (fun _ y => (nomatch y)) d_L_2399 (cV_X12_count (0 + 0) 0 0) kc_12 (ws_1 L1.1.1) tw_2689 rfl ⟨⟨show 0 + 0 + 1 ≤ 2048 from by decide, show 8 + (5 + 11) + 100 * (0 + 0) ≤ 84000 from by decide⟩, rfl, rfl⟩ ⟨show kc ≤ 494584 by omega, show ks ≤ 7612352 by omega⟩ ⟨_, rfl⟩ d_L_2402 (fun h2 I2 F2 => ?_)
  have L2 := L1.fr I2 F2 (by decide +kernel)
  refine aw_goto (tgt := 2406) d_L_2403 rfl ?_
  exact O _ _ _ _ L2 R.up
