/-! 9kd: the law's cases -/
theorem lc_36 {X : Cx} {K : Kx} {Ln : Nat} {xs : Nat → Int32} {U9 : Nat} (F : Fx X K cL_law RL (some .boolean) 60 U9 false) (hk : K.2.2.2.1 = 9) (hX : LX X K Ln xs) (hL : Ln ≤ 3072) (i : Int) (hi : 0 ≤ i ∧ i + 6 ≤ Ln) (M : Id4 → Int → Int) (b : Bool) (hI : INV M) (u : Nat) (hu : u + 8 ≤ U9) {Q : State → Prop} (head : HDL X K i u Q) : AW X K 1932 (lvH i) [] (M, R0 b) u Q := by
  obtain ⟨st, h8, h9, hp⟩ := hI
  refine aw_aload1 (pc := 1932) F dL_law_1932 ?_
  refine aw_aload0 (pc := 1933) F dL_law_1933 ?_
  refine aw_iload4 (pc := 1934) F dL_law_1934 ?_
  refine aw_iconst (pc := 1936) F dL_law_1936 ?_
  refine aw_iadd (pc := 1937) F dL_law_1937 ?_
  refine aw_sld (pc := 1938) F hX dL_law_1938 (by omega) hL ?_
  refine aw_aload0 (pc := 1939) F dL_law_1939 ?_
  refine aw_iload4 (pc := 1940) F dL_law_1940 ?_
  refine aw_iconst (pc := 1942) F dL_law_1942 ?_
  refine aw_iadd (pc := 1943) F dL_law_1943 ?_
  refine aw_sld (pc := 1944) F hX dL_law_1944 (by omega) hL ?_
  refine aw_aload0 (pc := 1945) F dL_law_1945 ?_
  refine aw_iload4 (pc := 1946) F dL_law_1946 ?_
  refine aw_iconst (pc := 1948) F dL_law_1948 ?_
  refine aw_iadd (pc := 1949) F dL_law_1949 ?_
  refine aw_sld (pc := 1950) F hX dL_law_1950 (by omega) hL ?_
  refine aw_aload3 (pc := 1951) F dL_law_1951 ?_
  obtain ⟨U8, t, V, st', hU, htb, hp', cW, cR⟩ := op_setSpan M b st (sI xs (i + 1)) (sI xs (i + 2)) (sI xs (i + 3)) sI_in sI_in sI_in h8 hp
  refine aw_hcallS (pc := 1952) (as9 := [aR (8, 0, 0, 0), aI (sI xs (i + 1)), aI (sI xs (i + 2)), aI (sI xs (i + 3)), aR (10, 0, 1, 0)]) F dL_law_1952 mh_L_260 cW (Nat.le_of_ble_eq_true rfl) (Nat.le_of_ble_eq_true rfl) (by omega) (fun r σ9 g9 => ?_)
  obtain ⟨M1, b1, ge, i8, f9, hr, ho⟩ := g9
  subst ge
  rw [hr]
  refine aw_istore5 (pc := 1955) F dL_law_1955 rfl hk.symm ?_
  refine aw_aload2 (pc := 1957) F dL_law_1957 ?_
  refine aw_aload0 (pc := 1958) F dL_law_1958 ?_
  refine aw_iload4 (pc := 1959) F dL_law_1959 ?_
  refine aw_iconst (pc := 1961) F dL_law_1961 ?_
  refine aw_iadd (pc := 1962) F dL_law_1962 ?_
  refine aw_sld (pc := 1963) F hX dL_law_1963 (by omega) hL ?_
  refine aw_aload0 (pc := 1964) F dL_law_1964 ?_
  refine aw_iload4 (pc := 1965) F dL_law_1965 ?_
  refine aw_iconst (pc := 1967) F dL_law_1967 ?_
  refine aw_iadd (pc := 1968) F dL_law_1968 ?_
  refine aw_sld (pc := 1969) F hX dL_law_1969 (by omega) hL ?_
  refine aw_aload0 (pc := 1970) F dL_law_1970 ?_
  refine aw_iload4 (pc := 1971) F dL_law_1971 ?_
  refine aw_iconst (pc := 1973) F dL_law_1973 ?_
  refine aw_iadd (pc := 1974) F dL_law_1974 ?_
  refine aw_sld (pc := 1975) F hX dL_law_1975 (by omega) hL ?_
  refine aw_gcallVI (pc := 1976) (as9 := [aI (sI xs (i + 1)), aI (sI xs (i + 2)), aI (sI xs (i + 3))]) F dL_law_1976 ml_L_262 rfl (by first | decide | (simp only [inB, cnt, rcnt]; omega)) (cR M1 b1 (h9.f9 f9)) (Nat.le_of_ble_eq_true rfl) (Nat.le_of_ble_eq_true rfl) (by omega) (fun v σ9 g9 => ?_)
  obtain ⟨M2, ge, i9, f8, ht, hv⟩ := g9
  subst ge
  refine aw_istore6 (pc := 1979) F dL_law_1979 rfl hk.symm ?_
  refine aw_aload2 (pc := 1981) F dL_law_1981 ?_
  refine aw_pcallV0 (pc := 1982) F dL_law_1982 ml_L_135 rfl (by first | decide | (simp only [inB, cnt, rcnt]; omega)) (ct9_thrown _ _) (Nat.le_of_ble_eq_true rfl) (Nat.le_of_ble_eq_true rfl) (by omega) ?_
  rw [ht]
  refine aw_iload5 (pc := 1985) F dL_law_1985 ?_
  refine aw_icmp_same (tgt := 1992) (pc := 1987) F dL_law_1987 (by decide) ?_
  refine aw_iload5 (pc := 1992) F dL_law_1992 ?_
  refine aw_if_ne (tgt := 2009) (pc := 1994) F dL_law_1994 (by decide) (by unfold inR; omega) (fun c5 => ?_) (fun c5 => ?_)
  · refine aw_goto (tgt := 2535) (pc := 2009) F dL_law_2009 (by decide) ?_
    exact head.fin ⟨_, i8.f8 f8, i9, hp'⟩ (by omega)
  · refine aw_aload3 (pc := 1997) F dL_law_1997 ?_
    refine aw_iconst (pc := 1998) F dL_law_1998 ?_
    refine aw_lald (pc := 1999) F dL_law_1999 rfl (by first | decide | (simp only [inB, cnt, rcnt]; omega)) (by decide) ?_
    rw [show M2 (10, 0, 1, 0) 0 = nrm V from (congrFun (f8 (10, 0, 1, 0) (by decide)) 0).trans (ho c5)]
    refine aw_iload6 (pc := 2000) F dL_law_2000 ?_
    rw [hv c5]
    refine aw_nrm ?_
    refine aw_i2l (pc := 2002) F dL_law_2002 nrm_in ?_
    refine aw_lcmp (pc := 2003) F (by first | exact nrm_in | (unfold inR; decide)) (by first | exact nrm_in | (unfold inR; decide)) dL_law_2003 ?_
    rw [cmp_same (by rfl)]
    refine aw_if_eq (tgt := 2009) (pc := 2004) F dL_law_2004 (by decide) inR0 (fun _ => ?_) (fun c7 => absurd rfl c7)
    refine aw_goto (tgt := 2535) (pc := 2009) F dL_law_2009 (by decide) ?_
    exact head.fin ⟨_, i8.f8 f8, i9, hp'⟩ (by omega)
theorem lc_37 {X : Cx} {K : Kx} {Ln : Nat} {xs : Nat → Int32} {U9 : Nat} (F : Fx X K cL_law RL (some .boolean) 60 U9 false) (hk : K.2.2.2.1 = 9) (hX : LX X K Ln xs) (hL : Ln ≤ 3072) (i : Int) (hi : 0 ≤ i ∧ i + 6 ≤ Ln) (M : Id4 → Int → Int) (b : Bool) (hI : INV M) (u : Nat) (hu : u + 8 ≤ U9) {Q : State → Prop} (head : HDL X K i u Q) : AW X K 2012 (lvH i) [] (M, R0 b) u Q := by
  obtain ⟨st, h8, h9, hp⟩ := hI
  refine aw_aload1 (pc := 2012) F dL_law_2012 ?_
  refine aw_aload0 (pc := 2013) F dL_law_2013 ?_
  refine aw_iload4 (pc := 2014) F dL_law_2014 ?_
  refine aw_iconst (pc := 2016) F dL_law_2016 ?_
  refine aw_iadd (pc := 2017) F dL_law_2017 ?_
  refine aw_sld (pc := 2018) F hX dL_law_2018 (by omega) hL ?_
  refine aw_aload0 (pc := 2019) F dL_law_2019 ?_
  refine aw_iload4 (pc := 2020) F dL_law_2020 ?_
  refine aw_iconst (pc := 2022) F dL_law_2022 ?_
  refine aw_iadd (pc := 2023) F dL_law_2023 ?_
  refine aw_sld (pc := 2024) F hX dL_law_2024 (by omega) hL ?_
  refine aw_aload3 (pc := 2025) F dL_law_2025 ?_
  obtain ⟨U8, t, V, st', hU, htb, hp', cW, cR⟩ := op_setWeight M b st (sI xs (i + 1)) (sI xs (i + 2)) sI_in sI_in h8 hp
  refine aw_hcallS (pc := 2026) (as9 := [aR (8, 0, 0, 0), aI (sI xs (i + 1)), aI (sI xs (i + 2)), aR (10, 0, 1, 0)]) F dL_law_2026 mh_L_263 cW (Nat.le_of_ble_eq_true rfl) (Nat.le_of_ble_eq_true rfl) (by omega) (fun r σ9 g9 => ?_)
  obtain ⟨M1, b1, ge, i8, f9, hr, ho⟩ := g9
  subst ge
  rw [hr]
  refine aw_istore5 (pc := 2029) F dL_law_2029 rfl hk.symm ?_
  refine aw_aload2 (pc := 2031) F dL_law_2031 ?_
  refine aw_aload0 (pc := 2032) F dL_law_2032 ?_
  refine aw_iload4 (pc := 2033) F dL_law_2033 ?_
  refine aw_iconst (pc := 2035) F dL_law_2035 ?_
  refine aw_iadd (pc := 2036) F dL_law_2036 ?_
  refine aw_sld (pc := 2037) F hX dL_law_2037 (by omega) hL ?_
  refine aw_aload0 (pc := 2038) F dL_law_2038 ?_
  refine aw_iload4 (pc := 2039) F dL_law_2039 ?_
  refine aw_iconst (pc := 2041) F dL_law_2041 ?_
  refine aw_iadd (pc := 2042) F dL_law_2042 ?_
  refine aw_sld (pc := 2043) F hX dL_law_2043 (by omega) hL ?_
  refine aw_gcallVI (pc := 2044) (as9 := [aI (sI xs (i + 1)), aI (sI xs (i + 2))]) F dL_law_2044 ml_L_265 rfl (by first | decide | (simp only [inB, cnt, rcnt]; omega)) (cR M1 b1 (h9.f9 f9)) (Nat.le_of_ble_eq_true rfl) (Nat.le_of_ble_eq_true rfl) (by omega) (fun v σ9 g9 => ?_)
  obtain ⟨M2, ge, i9, f8, ht, hv⟩ := g9
  subst ge
  refine aw_istore6 (pc := 2047) F dL_law_2047 rfl hk.symm ?_
  refine aw_aload2 (pc := 2049) F dL_law_2049 ?_
  refine aw_pcallV0 (pc := 2050) F dL_law_2050 ml_L_135 rfl (by first | decide | (simp only [inB, cnt, rcnt]; omega)) (ct9_thrown _ _) (Nat.le_of_ble_eq_true rfl) (Nat.le_of_ble_eq_true rfl) (by omega) ?_
  rw [ht]
  refine aw_iload5 (pc := 2053) F dL_law_2053 ?_
  refine aw_icmp_same (tgt := 2060) (pc := 2055) F dL_law_2055 (by decide) ?_
  refine aw_iload5 (pc := 2060) F dL_law_2060 ?_
  refine aw_if_ne (tgt := 2077) (pc := 2062) F dL_law_2062 (by decide) (by unfold inR; omega) (fun c5 => ?_) (fun c5 => ?_)
  · refine aw_goto (tgt := 2535) (pc := 2077) F dL_law_2077 (by decide) ?_
    exact head.fin ⟨_, i8.f8 f8, i9, hp'⟩ (by omega)
  · refine aw_aload3 (pc := 2065) F dL_law_2065 ?_
    refine aw_iconst (pc := 2066) F dL_law_2066 ?_
    refine aw_lald (pc := 2067) F dL_law_2067 rfl (by first | decide | (simp only [inB, cnt, rcnt]; omega)) (by decide) ?_
    rw [show M2 (10, 0, 1, 0) 0 = nrm V from (congrFun (f8 (10, 0, 1, 0) (by decide)) 0).trans (ho c5)]
    refine aw_iload6 (pc := 2068) F dL_law_2068 ?_
    rw [hv c5]
    refine aw_nrm ?_
    refine aw_i2l (pc := 2070) F dL_law_2070 nrm_in ?_
    refine aw_lcmp (pc := 2071) F (by first | exact nrm_in | (unfold inR; decide)) (by first | exact nrm_in | (unfold inR; decide)) dL_law_2071 ?_
    rw [cmp_same (by rfl)]
    refine aw_if_eq (tgt := 2077) (pc := 2072) F dL_law_2072 (by decide) inR0 (fun _ => ?_) (fun c7 => absurd rfl c7)
    refine aw_goto (tgt := 2535) (pc := 2077) F dL_law_2077 (by decide) ?_
    exact head.fin ⟨_, i8.f8 f8, i9, hp'⟩ (by omega)
theorem lc_38 {X : Cx} {K : Kx} {Ln : Nat} {xs : Nat → Int32} {U9 : Nat} (F : Fx X K cL_law RL (some .boolean) 60 U9 false) (hk : K.2.2.2.1 = 9) (hX : LX X K Ln xs) (hL : Ln ≤ 3072) (i : Int) (hi : 0 ≤ i ∧ i + 6 ≤ Ln) (M : Id4 → Int → Int) (b : Bool) (hI : INV M) (u : Nat) (hu : u + 8 ≤ U9) {Q : State → Prop} (head : HDL X K i u Q) : AW X K 2080 (lvH i) [] (M, R0 b) u Q := by
  obtain ⟨st, h8, h9, hp⟩ := hI
  refine aw_aload1 (pc := 2080) F dL_law_2080 ?_
  refine aw_aload0 (pc := 2081) F dL_law_2081 ?_
  refine aw_iload4 (pc := 2082) F dL_law_2082 ?_
  refine aw_iconst (pc := 2084) F dL_law_2084 ?_
  refine aw_iadd (pc := 2085) F dL_law_2085 ?_
  refine aw_sld (pc := 2086) F hX dL_law_2086 (by omega) hL ?_
  refine aw_aload0 (pc := 2087) F dL_law_2087 ?_
  refine aw_iload4 (pc := 2088) F dL_law_2088 ?_
  refine aw_iconst (pc := 2090) F dL_law_2090 ?_
  refine aw_iadd (pc := 2091) F dL_law_2091 ?_
  refine aw_sld (pc := 2092) F hX dL_law_2092 (by omega) hL ?_
  refine aw_aload0 (pc := 2093) F dL_law_2093 ?_
  refine aw_iload4 (pc := 2094) F dL_law_2094 ?_
  refine aw_iconst (pc := 2096) F dL_law_2096 ?_
  refine aw_iadd (pc := 2097) F dL_law_2097 ?_
  refine aw_sld (pc := 2098) F hX dL_law_2098 (by omega) hL ?_
  refine aw_aload0 (pc := 2099) F dL_law_2099 ?_
  refine aw_iload4 (pc := 2100) F dL_law_2100 ?_
  refine aw_iconst (pc := 2102) F dL_law_2102 ?_
  refine aw_iadd (pc := 2103) F dL_law_2103 ?_
  refine aw_sld (pc := 2104) F hX dL_law_2104 (by omega) hL ?_
  refine aw_aload0 (pc := 2105) F dL_law_2105 ?_
  refine aw_iload4 (pc := 2106) F dL_law_2106 ?_
  refine aw_iconst (pc := 2108) F dL_law_2108 ?_
  refine aw_iadd (pc := 2109) F dL_law_2109 ?_
  refine aw_sld (pc := 2110) F hX dL_law_2110 (by omega) hL ?_
  refine aw_aload3 (pc := 2111) F dL_law_2111 ?_
  obtain ⟨U8, t, V, st', hU, htb, hp', cW, cR⟩ := op_addSpan M b st (sI xs (i + 1)) (sI xs (i + 2)) (sI xs (i + 3)) (sI xs (i + 4)) (sI xs (i + 5)) sI_in sI_in sI_in sI_in sI_in h8 hp
  refine aw_hcallS (pc := 2112) (as9 := [aR (8, 0, 0, 0), aI (sI xs (i + 1)), aI (sI xs (i + 2)), aI (sI xs (i + 3)), aI (sI xs (i + 4)), aI (sI xs (i + 5)), aR (10, 0, 1, 0)]) F dL_law_2112 mh_L_266 cW (Nat.le_of_ble_eq_true rfl) (Nat.le_of_ble_eq_true rfl) (by omega) (fun r σ9 g9 => ?_)
  obtain ⟨M1, b1, ge, i8, f9, hr, ho⟩ := g9
  subst ge
  rw [hr]
  refine aw_istore5 (pc := 2115) F dL_law_2115 rfl hk.symm ?_
  refine aw_aload2 (pc := 2117) F dL_law_2117 ?_
  refine aw_aload0 (pc := 2118) F dL_law_2118 ?_
  refine aw_iload4 (pc := 2119) F dL_law_2119 ?_
  refine aw_iconst (pc := 2121) F dL_law_2121 ?_
  refine aw_iadd (pc := 2122) F dL_law_2122 ?_
  refine aw_sld (pc := 2123) F hX dL_law_2123 (by omega) hL ?_
  refine aw_aload0 (pc := 2124) F dL_law_2124 ?_
  refine aw_iload4 (pc := 2125) F dL_law_2125 ?_
  refine aw_iconst (pc := 2127) F dL_law_2127 ?_
  refine aw_iadd (pc := 2128) F dL_law_2128 ?_
  refine aw_sld (pc := 2129) F hX dL_law_2129 (by omega) hL ?_
  refine aw_aload0 (pc := 2130) F dL_law_2130 ?_
  refine aw_iload4 (pc := 2131) F dL_law_2131 ?_
  refine aw_iconst (pc := 2133) F dL_law_2133 ?_
  refine aw_iadd (pc := 2134) F dL_law_2134 ?_
  refine aw_sld (pc := 2135) F hX dL_law_2135 (by omega) hL ?_
  refine aw_aload0 (pc := 2136) F dL_law_2136 ?_
  refine aw_iload4 (pc := 2137) F dL_law_2137 ?_
  refine aw_iconst (pc := 2139) F dL_law_2139 ?_
  refine aw_iadd (pc := 2140) F dL_law_2140 ?_
  refine aw_sld (pc := 2141) F hX dL_law_2141 (by omega) hL ?_
  refine aw_aload0 (pc := 2142) F dL_law_2142 ?_
  refine aw_iload4 (pc := 2143) F dL_law_2143 ?_
  refine aw_iconst (pc := 2145) F dL_law_2145 ?_
  refine aw_iadd (pc := 2146) F dL_law_2146 ?_
  refine aw_sld (pc := 2147) F hX dL_law_2147 (by omega) hL ?_
  refine aw_gcallVI (pc := 2148) (as9 := [aI (sI xs (i + 1)), aI (sI xs (i + 2)), aI (sI xs (i + 3)), aI (sI xs (i + 4)), aI (sI xs (i + 5))]) F dL_law_2148 ml_L_269 rfl (by first | decide | (simp only [inB, cnt, rcnt]; omega)) (cR M1 b1 (h9.f9 f9)) (Nat.le_of_ble_eq_true rfl) (Nat.le_of_ble_eq_true rfl) (by omega) (fun v σ9 g9 => ?_)
  obtain ⟨M2, ge, i9, f8, ht, hv⟩ := g9
  subst ge
  refine aw_istore6 (pc := 2151) F dL_law_2151 rfl hk.symm ?_
  refine aw_aload2 (pc := 2153) F dL_law_2153 ?_
  refine aw_pcallV0 (pc := 2154) F dL_law_2154 ml_L_135 rfl (by first | decide | (simp only [inB, cnt, rcnt]; omega)) (ct9_thrown _ _) (Nat.le_of_ble_eq_true rfl) (Nat.le_of_ble_eq_true rfl) (by omega) ?_
  rw [ht]
  refine aw_iload5 (pc := 2157) F dL_law_2157 ?_
  refine aw_icmp_same (tgt := 2164) (pc := 2159) F dL_law_2159 (by decide) ?_
  refine aw_iload5 (pc := 2164) F dL_law_2164 ?_
  refine aw_if_ne (tgt := 2181) (pc := 2166) F dL_law_2166 (by decide) (by unfold inR; omega) (fun c5 => ?_) (fun c5 => ?_)
  · refine aw_goto (tgt := 2535) (pc := 2181) F dL_law_2181 (by decide) ?_
    exact head.fin ⟨_, i8.f8 f8, i9, hp'⟩ (by omega)
  · refine aw_aload3 (pc := 2169) F dL_law_2169 ?_
    refine aw_iconst (pc := 2170) F dL_law_2170 ?_
    refine aw_lald (pc := 2171) F dL_law_2171 rfl (by first | decide | (simp only [inB, cnt, rcnt]; omega)) (by decide) ?_
    rw [show M2 (10, 0, 1, 0) 0 = nrm V from (congrFun (f8 (10, 0, 1, 0) (by decide)) 0).trans (ho c5)]
    refine aw_iload6 (pc := 2172) F dL_law_2172 ?_
    rw [hv c5]
    refine aw_nrm ?_
    refine aw_i2l (pc := 2174) F dL_law_2174 nrm_in ?_
    refine aw_lcmp (pc := 2175) F (by first | exact nrm_in | (unfold inR; decide)) (by first | exact nrm_in | (unfold inR; decide)) dL_law_2175 ?_
    rw [cmp_same (by rfl)]
    refine aw_if_eq (tgt := 2181) (pc := 2176) F dL_law_2176 (by decide) inR0 (fun _ => ?_) (fun c7 => absurd rfl c7)
    refine aw_goto (tgt := 2535) (pc := 2181) F dL_law_2181 (by decide) ?_
    exact head.fin ⟨_, i8.f8 f8, i9, hp'⟩ (by omega)
theorem lc_39 {X : Cx} {K : Kx} {Ln : Nat} {xs : Nat → Int32} {U9 : Nat} (F : Fx X K cL_law RL (some .boolean) 60 U9 false) (hk : K.2.2.2.1 = 9) (hX : LX X K Ln xs) (hL : Ln ≤ 3072) (i : Int) (hi : 0 ≤ i ∧ i + 6 ≤ Ln) (M : Id4 → Int → Int) (b : Bool) (hI : INV M) (u : Nat) (hu : u + 8 ≤ U9) {Q : State → Prop} (head : HDL X K i u Q) : AW X K 2184 (lvH i) [] (M, R0 b) u Q := by
  obtain ⟨st, h8, h9, hp⟩ := hI
  refine aw_aload1 (pc := 2184) F dL_law_2184 ?_
  refine aw_aload0 (pc := 2185) F dL_law_2185 ?_
  refine aw_iload4 (pc := 2186) F dL_law_2186 ?_
  refine aw_iconst (pc := 2188) F dL_law_2188 ?_
  refine aw_iadd (pc := 2189) F dL_law_2189 ?_
  refine aw_sld (pc := 2190) F hX dL_law_2190 (by omega) hL ?_
  refine aw_aload3 (pc := 2191) F dL_law_2191 ?_
  obtain ⟨U8, t, V, st', hU, htb, hp', cW, cR⟩ := op_removeSpan M b st (sI xs (i + 1)) sI_in h8 hp
  refine aw_hcallS (pc := 2192) (as9 := [aR (8, 0, 0, 0), aI (sI xs (i + 1)), aR (10, 0, 1, 0)]) F dL_law_2192 mh_L_270 cW (Nat.le_of_ble_eq_true rfl) (Nat.le_of_ble_eq_true rfl) (by omega) (fun r σ9 g9 => ?_)
  obtain ⟨M1, b1, ge, i8, f9, hr, ho⟩ := g9
  subst ge
  rw [hr]
  refine aw_istore5 (pc := 2195) F dL_law_2195 rfl hk.symm ?_
  refine aw_aload2 (pc := 2197) F dL_law_2197 ?_
  refine aw_aload0 (pc := 2198) F dL_law_2198 ?_
  refine aw_iload4 (pc := 2199) F dL_law_2199 ?_
  refine aw_iconst (pc := 2201) F dL_law_2201 ?_
  refine aw_iadd (pc := 2202) F dL_law_2202 ?_
  refine aw_sld (pc := 2203) F hX dL_law_2203 (by omega) hL ?_
  refine aw_gcallVI (pc := 2204) (as9 := [aI (sI xs (i + 1))]) F dL_law_2204 ml_L_272 rfl (by first | decide | (simp only [inB, cnt, rcnt]; omega)) (cR M1 b1 (h9.f9 f9)) (Nat.le_of_ble_eq_true rfl) (Nat.le_of_ble_eq_true rfl) (by omega) (fun v σ9 g9 => ?_)
  obtain ⟨M2, ge, i9, f8, ht, hv⟩ := g9
  subst ge
  refine aw_istore6 (pc := 2207) F dL_law_2207 rfl hk.symm ?_
  refine aw_aload2 (pc := 2209) F dL_law_2209 ?_
  refine aw_pcallV0 (pc := 2210) F dL_law_2210 ml_L_135 rfl (by first | decide | (simp only [inB, cnt, rcnt]; omega)) (ct9_thrown _ _) (Nat.le_of_ble_eq_true rfl) (Nat.le_of_ble_eq_true rfl) (by omega) ?_
  rw [ht]
  refine aw_iload5 (pc := 2213) F dL_law_2213 ?_
  refine aw_icmp_same (tgt := 2220) (pc := 2215) F dL_law_2215 (by decide) ?_
  refine aw_iload5 (pc := 2220) F dL_law_2220 ?_
  refine aw_if_ne (tgt := 2237) (pc := 2222) F dL_law_2222 (by decide) (by unfold inR; omega) (fun c5 => ?_) (fun c5 => ?_)
  · refine aw_goto (tgt := 2535) (pc := 2237) F dL_law_2237 (by decide) ?_
    exact head.fin ⟨_, i8.f8 f8, i9, hp'⟩ (by omega)
  · refine aw_aload3 (pc := 2225) F dL_law_2225 ?_
    refine aw_iconst (pc := 2226) F dL_law_2226 ?_
    refine aw_lald (pc := 2227) F dL_law_2227 rfl (by first | decide | (simp only [inB, cnt, rcnt]; omega)) (by decide) ?_
    rw [show M2 (10, 0, 1, 0) 0 = nrm V from (congrFun (f8 (10, 0, 1, 0) (by decide)) 0).trans (ho c5)]
    refine aw_iload6 (pc := 2228) F dL_law_2228 ?_
    rw [hv c5]
    refine aw_nrm ?_
    refine aw_i2l (pc := 2230) F dL_law_2230 nrm_in ?_
    refine aw_lcmp (pc := 2231) F (by first | exact nrm_in | (unfold inR; decide)) (by first | exact nrm_in | (unfold inR; decide)) dL_law_2231 ?_
    rw [cmp_same (by rfl)]
    refine aw_if_eq (tgt := 2237) (pc := 2232) F dL_law_2232 (by decide) inR0 (fun _ => ?_) (fun c7 => absurd rfl c7)
    refine aw_goto (tgt := 2535) (pc := 2237) F dL_law_2237 (by decide) ?_
    exact head.fin ⟨_, i8.f8 f8, i9, hp'⟩ (by omega)
theorem lc_40 {X : Cx} {K : Kx} {Ln : Nat} {xs : Nat → Int32} {U9 : Nat} (F : Fx X K cL_law RL (some .boolean) 60 U9 false) (hk : K.2.2.2.1 = 9) (hX : LX X K Ln xs) (hL : Ln ≤ 3072) (i : Int) (hi : 0 ≤ i ∧ i + 6 ≤ Ln) (M : Id4 → Int → Int) (b : Bool) (hI : INV M) (u : Nat) (hu : u + 8 ≤ U9) {Q : State → Prop} (head : HDL X K i u Q) : AW X K 2240 (lvH i) [] (M, R0 b) u Q := by
  obtain ⟨st, h8, h9, hp⟩ := hI
  refine aw_aload1 (pc := 2240) F dL_law_2240 ?_
  refine aw_aload0 (pc := 2241) F dL_law_2241 ?_
  refine aw_iload4 (pc := 2242) F dL_law_2242 ?_
  refine aw_iconst (pc := 2244) F dL_law_2244 ?_
  refine aw_iadd (pc := 2245) F dL_law_2245 ?_
  refine aw_sld (pc := 2246) F hX dL_law_2246 (by omega) hL ?_
  refine aw_aload3 (pc := 2247) F dL_law_2247 ?_
  obtain ⟨U8, t, V, st', hU, htb, hp', cW, cR⟩ := op_setPeriod M b st (sI xs (i + 1)) sI_in h8 hp
  refine aw_hcallS (pc := 2248) (as9 := [aR (8, 0, 0, 0), aI (sI xs (i + 1)), aR (10, 0, 1, 0)]) F dL_law_2248 mh_L_273 cW (Nat.le_of_ble_eq_true rfl) (Nat.le_of_ble_eq_true rfl) (by omega) (fun r σ9 g9 => ?_)
  obtain ⟨M1, b1, ge, i8, f9, hr, ho⟩ := g9
  subst ge
  rw [hr]
  refine aw_istore5 (pc := 2251) F dL_law_2251 rfl hk.symm ?_
  refine aw_aload2 (pc := 2253) F dL_law_2253 ?_
  refine aw_aload0 (pc := 2254) F dL_law_2254 ?_
  refine aw_iload4 (pc := 2255) F dL_law_2255 ?_
  refine aw_iconst (pc := 2257) F dL_law_2257 ?_
  refine aw_iadd (pc := 2258) F dL_law_2258 ?_
  refine aw_sld (pc := 2259) F hX dL_law_2259 (by omega) hL ?_
  refine aw_gcallVI (pc := 2260) (as9 := [aI (sI xs (i + 1))]) F dL_law_2260 ml_L_275 rfl (by first | decide | (simp only [inB, cnt, rcnt]; omega)) (cR M1 b1 (h9.f9 f9)) (Nat.le_of_ble_eq_true rfl) (Nat.le_of_ble_eq_true rfl) (by omega) (fun v σ9 g9 => ?_)
  obtain ⟨M2, ge, i9, f8, ht, hv⟩ := g9
  subst ge
  refine aw_istore6 (pc := 2263) F dL_law_2263 rfl hk.symm ?_
  refine aw_aload2 (pc := 2265) F dL_law_2265 ?_
  refine aw_pcallV0 (pc := 2266) F dL_law_2266 ml_L_135 rfl (by first | decide | (simp only [inB, cnt, rcnt]; omega)) (ct9_thrown _ _) (Nat.le_of_ble_eq_true rfl) (Nat.le_of_ble_eq_true rfl) (by omega) ?_
  rw [ht]
  refine aw_iload5 (pc := 2269) F dL_law_2269 ?_
  refine aw_icmp_same (tgt := 2276) (pc := 2271) F dL_law_2271 (by decide) ?_
  refine aw_iload5 (pc := 2276) F dL_law_2276 ?_
  refine aw_if_ne (tgt := 2293) (pc := 2278) F dL_law_2278 (by decide) (by unfold inR; omega) (fun c5 => ?_) (fun c5 => ?_)
  · refine aw_goto (tgt := 2535) (pc := 2293) F dL_law_2293 (by decide) ?_
    exact head.fin ⟨_, i8.f8 f8, i9, hp'⟩ (by omega)
  · refine aw_aload3 (pc := 2281) F dL_law_2281 ?_
    refine aw_iconst (pc := 2282) F dL_law_2282 ?_
    refine aw_lald (pc := 2283) F dL_law_2283 rfl (by first | decide | (simp only [inB, cnt, rcnt]; omega)) (by decide) ?_
    rw [show M2 (10, 0, 1, 0) 0 = nrm V from (congrFun (f8 (10, 0, 1, 0) (by decide)) 0).trans (ho c5)]
    refine aw_iload6 (pc := 2284) F dL_law_2284 ?_
    rw [hv c5]
    refine aw_nrm ?_
    refine aw_i2l (pc := 2286) F dL_law_2286 nrm_in ?_
    refine aw_lcmp (pc := 2287) F (by first | exact nrm_in | (unfold inR; decide)) (by first | exact nrm_in | (unfold inR; decide)) dL_law_2287 ?_
    rw [cmp_same (by rfl)]
    refine aw_if_eq (tgt := 2293) (pc := 2288) F dL_law_2288 (by decide) inR0 (fun _ => ?_) (fun c7 => absurd rfl c7)
    refine aw_goto (tgt := 2535) (pc := 2293) F dL_law_2293 (by decide) ?_
    exact head.fin ⟨_, i8.f8 f8, i9, hp'⟩ (by omega)
theorem lc_41 {X : Cx} {K : Kx} {Ln : Nat} {xs : Nat → Int32} {U9 : Nat} (F : Fx X K cL_law RL (some .boolean) 60 U9 false) (hk : K.2.2.2.1 = 9) (hX : LX X K Ln xs) (hL : Ln ≤ 3072) (i : Int) (hi : 0 ≤ i ∧ i + 6 ≤ Ln) (M : Id4 → Int → Int) (b : Bool) (hI : INV M) (u : Nat) (hu : u + 8 ≤ U9) {Q : State → Prop} (head : HDL X K i u Q) : AW X K 2296 (lvH i) [] (M, R0 b) u Q := by
  obtain ⟨st, h8, h9, hp⟩ := hI
  refine aw_aload1 (pc := 2296) F dL_law_2296 ?_
  refine aw_aload3 (pc := 2297) F dL_law_2297 ?_
  obtain ⟨U8, t, V, st', hU, htb, hp', cW, cR⟩ := op_solve M b st   h8 hp
  refine aw_hcallS (pc := 2298) (as9 := [aR (8, 0, 0, 0), aR (10, 0, 1, 0)]) F dL_law_2298 mh_L_276 cW (Nat.le_of_ble_eq_true rfl) (Nat.le_of_ble_eq_true rfl) (by omega) (fun r σ9 g9 => ?_)
  obtain ⟨M1, b1, ge, i8, f9, hr, ho⟩ := g9
  subst ge
  rw [hr]
  refine aw_istore5 (pc := 2301) F dL_law_2301 rfl hk.symm ?_
  refine aw_aload2 (pc := 2303) F dL_law_2303 ?_
  refine aw_gcallVI (pc := 2304) (as9 := []) F dL_law_2304 ml_L_278 rfl (by first | decide | (simp only [inB, cnt, rcnt]; omega)) (cR M1 b1 (h9.f9 f9)) (Nat.le_of_ble_eq_true rfl) (Nat.le_of_ble_eq_true rfl) (by omega) (fun v σ9 g9 => ?_)
  obtain ⟨M2, ge, i9, f8, ht, hv⟩ := g9
  subst ge
  refine aw_istore6 (pc := 2307) F dL_law_2307 rfl hk.symm ?_
  refine aw_aload2 (pc := 2309) F dL_law_2309 ?_
  refine aw_pcallV0 (pc := 2310) F dL_law_2310 ml_L_135 rfl (by first | decide | (simp only [inB, cnt, rcnt]; omega)) (ct9_thrown _ _) (Nat.le_of_ble_eq_true rfl) (Nat.le_of_ble_eq_true rfl) (by omega) ?_
  rw [ht]
  refine aw_iload5 (pc := 2313) F dL_law_2313 ?_
  refine aw_icmp_same (tgt := 2320) (pc := 2315) F dL_law_2315 (by decide) ?_
  refine aw_iload5 (pc := 2320) F dL_law_2320 ?_
  refine aw_if_ne (tgt := 2337) (pc := 2322) F dL_law_2322 (by decide) (by unfold inR; omega) (fun c5 => ?_) (fun c5 => ?_)
  · refine aw_goto (tgt := 2535) (pc := 2337) F dL_law_2337 (by decide) ?_
    exact head.fin ⟨_, i8.f8 f8, i9, hp'⟩ (by omega)
  · refine aw_aload3 (pc := 2325) F dL_law_2325 ?_
    refine aw_iconst (pc := 2326) F dL_law_2326 ?_
    refine aw_lald (pc := 2327) F dL_law_2327 rfl (by first | decide | (simp only [inB, cnt, rcnt]; omega)) (by decide) ?_
    rw [show M2 (10, 0, 1, 0) 0 = nrm V from (congrFun (f8 (10, 0, 1, 0) (by decide)) 0).trans (ho c5)]
    refine aw_iload6 (pc := 2328) F dL_law_2328 ?_
    rw [hv c5]
    refine aw_nrm ?_
    refine aw_i2l (pc := 2330) F dL_law_2330 nrm_in ?_
    refine aw_lcmp (pc := 2331) F (by first | exact nrm_in | (unfold inR; decide)) (by first | exact nrm_in | (unfold inR; decide)) dL_law_2331 ?_
    rw [cmp_same (by rfl)]
    refine aw_if_eq (tgt := 2337) (pc := 2332) F dL_law_2332 (by decide) inR0 (fun _ => ?_) (fun c7 => absurd rfl c7)
    refine aw_goto (tgt := 2535) (pc := 2337) F dL_law_2337 (by decide) ?_
    exact head.fin ⟨_, i8.f8 f8, i9, hp'⟩ (by omega)
theorem lc_42 {X : Cx} {K : Kx} {Ln : Nat} {xs : Nat → Int32} {U9 : Nat} (F : Fx X K cL_law RL (some .boolean) 60 U9 false) (hk : K.2.2.2.1 = 9) (hX : LX X K Ln xs) (hL : Ln ≤ 3072) (i : Int) (hi : 0 ≤ i ∧ i + 6 ≤ Ln) (M : Id4 → Int → Int) (b : Bool) (hI : INV M) (u : Nat) (hu : u + 8 ≤ U9) {Q : State → Prop} (head : HDL X K i u Q) : AW X K 2340 (lvH i) [] (M, R0 b) u Q := by
  obtain ⟨st, h8, h9, hp⟩ := hI
  refine aw_aload1 (pc := 2340) F dL_law_2340 ?_
  refine aw_aload3 (pc := 2341) F dL_law_2341 ?_
  obtain ⟨U8, t, V, st', hU, htb, hp', cW, cR⟩ := op_cheapen M b st   h8 hp
  refine aw_hcallS (pc := 2342) (as9 := [aR (8, 0, 0, 0), aR (10, 0, 1, 0)]) F dL_law_2342 mh_L_279 cW (Nat.le_of_ble_eq_true rfl) (Nat.le_of_ble_eq_true rfl) (by omega) (fun r σ9 g9 => ?_)
  obtain ⟨M1, b1, ge, i8, f9, hr, ho⟩ := g9
  subst ge
  rw [hr]
  refine aw_istore5 (pc := 2345) F dL_law_2345 rfl hk.symm ?_
  refine aw_aload2 (pc := 2347) F dL_law_2347 ?_
  refine aw_gcallVI (pc := 2348) (as9 := []) F dL_law_2348 ml_L_281 rfl (by first | decide | (simp only [inB, cnt, rcnt]; omega)) (cR M1 b1 (h9.f9 f9)) (Nat.le_of_ble_eq_true rfl) (Nat.le_of_ble_eq_true rfl) (by omega) (fun v σ9 g9 => ?_)
  obtain ⟨M2, ge, i9, f8, ht, hv⟩ := g9
  subst ge
  refine aw_istore6 (pc := 2351) F dL_law_2351 rfl hk.symm ?_
  refine aw_aload2 (pc := 2353) F dL_law_2353 ?_
  refine aw_pcallV0 (pc := 2354) F dL_law_2354 ml_L_135 rfl (by first | decide | (simp only [inB, cnt, rcnt]; omega)) (ct9_thrown _ _) (Nat.le_of_ble_eq_true rfl) (Nat.le_of_ble_eq_true rfl) (by omega) ?_
  rw [ht]
  refine aw_iload5 (pc := 2357) F dL_law_2357 ?_
  refine aw_icmp_same (tgt := 2364) (pc := 2359) F dL_law_2359 (by decide) ?_
  refine aw_iload5 (pc := 2364) F dL_law_2364 ?_
  refine aw_if_ne (tgt := 2381) (pc := 2366) F dL_law_2366 (by decide) (by unfold inR; omega) (fun c5 => ?_) (fun c5 => ?_)
  · refine aw_goto (tgt := 2535) (pc := 2381) F dL_law_2381 (by decide) ?_
    exact head.fin ⟨_, i8.f8 f8, i9, hp'⟩ (by omega)
  · refine aw_aload3 (pc := 2369) F dL_law_2369 ?_
    refine aw_iconst (pc := 2370) F dL_law_2370 ?_
    refine aw_lald (pc := 2371) F dL_law_2371 rfl (by first | decide | (simp only [inB, cnt, rcnt]; omega)) (by decide) ?_
    rw [show M2 (10, 0, 1, 0) 0 = nrm V from (congrFun (f8 (10, 0, 1, 0) (by decide)) 0).trans (ho c5)]
    refine aw_iload6 (pc := 2372) F dL_law_2372 ?_
    rw [hv c5]
    refine aw_nrm ?_
    refine aw_i2l (pc := 2374) F dL_law_2374 nrm_in ?_
    refine aw_lcmp (pc := 2375) F (by first | exact nrm_in | (unfold inR; decide)) (by first | exact nrm_in | (unfold inR; decide)) dL_law_2375 ?_
    rw [cmp_same (by rfl)]
    refine aw_if_eq (tgt := 2381) (pc := 2376) F dL_law_2376 (by decide) inR0 (fun _ => ?_) (fun c7 => absurd rfl c7)
    refine aw_goto (tgt := 2535) (pc := 2381) F dL_law_2381 (by decide) ?_
    exact head.fin ⟨_, i8.f8 f8, i9, hp'⟩ (by omega)
theorem lc_43 {X : Cx} {K : Kx} {Ln : Nat} {xs : Nat → Int32} {U9 : Nat} (F : Fx X K cL_law RL (some .boolean) 60 U9 false) (hk : K.2.2.2.1 = 9) (hX : LX X K Ln xs) (hL : Ln ≤ 3072) (i : Int) (hi : 0 ≤ i ∧ i + 6 ≤ Ln) (M : Id4 → Int → Int) (b : Bool) (hI : INV M) (u : Nat) (hu : u + 8 ≤ U9) {Q : State → Prop} (head : HDL X K i u Q) : AW X K 2384 (lvH i) [] (M, R0 b) u Q := by
  obtain ⟨st, h8, h9, hp⟩ := hI
  refine aw_aload1 (pc := 2384) F dL_law_2384 ?_
  obtain ⟨V, st', hp', c8, c9⟩ := op_improve M b st   h8 hp
  refine aw_gcallVI (pc := 2385) (as9 := []) F dL_law_2385 ml_L_282 rfl (by first | decide | (simp only [inB, cnt, rcnt]; omega)) c8 (Nat.le_of_ble_eq_true rfl) (Nat.le_of_ble_eq_true rfl) (by omega) (fun v σ9 g9 => ?_)
  obtain ⟨M1, ge, i8, f9, hv⟩ := g9
  subst ge
  rw [hv]
  refine aw_aload2 (pc := 2388) F dL_law_2388 ?_
  refine aw_gcallVI (pc := 2389) (as9 := []) F dL_law_2389 ml_L_285 rfl (by first | decide | (simp only [inB, cnt, rcnt]; omega)) (c9 M1 b (h9.f9 f9)) (Nat.le_of_ble_eq_true rfl) (Nat.le_of_ble_eq_true rfl) (by omega) (fun v σ9 g9 => ?_)
  obtain ⟨M2, ge, i9, f8, -, hv2⟩ := g9
  subst ge
  rw [hv2 rfl]
  refine aw_icmp_same (tgt := 2535) (pc := 2392) F dL_law_2392 (by decide) ?_
  exact head.fin ⟨_, i8.f8 f8, i9, hp'⟩ (by omega)
theorem lc_44 {X : Cx} {K : Kx} {Ln : Nat} {xs : Nat → Int32} {U9 : Nat} (F : Fx X K cL_law RL (some .boolean) 60 U9 false) (hk : K.2.2.2.1 = 9) (hX : LX X K Ln xs) (hL : Ln ≤ 3072) (i : Int) (hi : 0 ≤ i ∧ i + 6 ≤ Ln) (M : Id4 → Int → Int) (b : Bool) (hI : INV M) (u : Nat) (hu : u + 8 ≤ U9) {Q : State → Prop} (head : HDL X K i u Q) : AW X K 2397 (lvH i) [] (M, R0 b) u Q := by
  obtain ⟨st, h8, h9, hp⟩ := hI
  refine aw_aload1 (pc := 2397) F dL_law_2397 ?_
  obtain ⟨V, st', hp', c8, c9⟩ := op_undo M b st   h8 hp
  refine aw_gcallVI (pc := 2398) (as9 := []) F dL_law_2398 ml_L_286 rfl (by first | decide | (simp only [inB, cnt, rcnt]; omega)) c8 (Nat.le_of_ble_eq_true rfl) (Nat.le_of_ble_eq_true rfl) (by omega) (fun v σ9 g9 => ?_)
  obtain ⟨M1, ge, i8, f9, hv⟩ := g9
  subst ge
  rw [hv]
  refine aw_aload2 (pc := 2401) F dL_law_2401 ?_
  refine aw_gcallVI (pc := 2402) (as9 := []) F dL_law_2402 ml_L_289 rfl (by first | decide | (simp only [inB, cnt, rcnt]; omega)) (c9 M1 b (h9.f9 f9)) (Nat.le_of_ble_eq_true rfl) (Nat.le_of_ble_eq_true rfl) (by omega) (fun v σ9 g9 => ?_)
  obtain ⟨M2, ge, i9, f8, -, hv2⟩ := g9
  subst ge
  rw [hv2 rfl]
  refine aw_icmp_same (tgt := 2535) (pc := 2405) F dL_law_2405 (by decide) ?_
  exact head.fin ⟨_, i8.f8 f8, i9, hp'⟩ (by omega)
theorem lc_45 {X : Cx} {K : Kx} {Ln : Nat} {xs : Nat → Int32} {U9 : Nat} (F : Fx X K cL_law RL (some .boolean) 60 U9 false) (hk : K.2.2.2.1 = 9) (hX : LX X K Ln xs) (hL : Ln ≤ 3072) (i : Int) (hi : 0 ≤ i ∧ i + 6 ≤ Ln) (M : Id4 → Int → Int) (b : Bool) (hI : INV M) (u : Nat) (hu : u + 8 ≤ U9) {Q : State → Prop} (head : HDL X K i u Q) : AW X K 2410 (lvH i) [] (M, R0 b) u Q := by
  obtain ⟨st, h8, h9, hp⟩ := hI
  refine aw_aload1 (pc := 2410) F dL_law_2410 ?_
  obtain ⟨V, st', hp', c8, c9⟩ := op_write M b st   h8 hp
  refine aw_gcallVI (pc := 2411) (as9 := []) F dL_law_2411 ml_L_290 rfl (by first | decide | (simp only [inB, cnt, rcnt]; omega)) c8 (Nat.le_of_ble_eq_true rfl) (Nat.le_of_ble_eq_true rfl) (by omega) (fun v σ9 g9 => ?_)
  obtain ⟨M1, ge, i8, f9, hv⟩ := g9
  subst ge
  rw [hv]
  refine aw_aload2 (pc := 2414) F dL_law_2414 ?_
  refine aw_gcallVI (pc := 2415) (as9 := []) F dL_law_2415 ml_L_293 rfl (by first | decide | (simp only [inB, cnt, rcnt]; omega)) (c9 M1 b (h9.f9 f9)) (Nat.le_of_ble_eq_true rfl) (Nat.le_of_ble_eq_true rfl) (by omega) (fun v σ9 g9 => ?_)
  obtain ⟨M2, ge, i9, f8, hv2⟩ := g9
  subst ge
  rw [hv2]
  refine aw_icmp_same (tgt := 2535) (pc := 2418) F dL_law_2418 (by decide) ?_
  exact head.fin ⟨_, i8.f8 f8, i9, hp'⟩ (by omega)
theorem lc_46 {X : Cx} {K : Kx} {Ln : Nat} {xs : Nat → Int32} {U9 : Nat} (F : Fx X K cL_law RL (some .boolean) 60 U9 false) (hk : K.2.2.2.1 = 9) (hX : LX X K Ln xs) (hL : Ln ≤ 3072) (i : Int) (hi : 0 ≤ i ∧ i + 6 ≤ Ln) (M : Id4 → Int → Int) (b : Bool) (hI : INV M) (u : Nat) (hu : u + 8 ≤ U9) {Q : State → Prop} (head : HDL X K i u Q) : AW X K 2423 (lvH i) [] (M, R0 b) u Q := by
  obtain ⟨st, h8, h9, hp⟩ := hI
  refine aw_aload1 (pc := 2423) F dL_law_2423 ?_
  refine aw_aload0 (pc := 2424) F dL_law_2424 ?_
  refine aw_iload4 (pc := 2425) F dL_law_2425 ?_
  refine aw_iconst (pc := 2427) F dL_law_2427 ?_
  refine aw_iadd (pc := 2428) F dL_law_2428 ?_
  refine aw_sld (pc := 2429) F hX dL_law_2429 (by omega) hL ?_
  refine aw_aload3 (pc := 2430) F dL_law_2430 ?_
  obtain ⟨U8, t, V, st', hU, htb, hp', cW, cR⟩ := op_writeCycle M b st (sI xs (i + 1)) sI_in h8 hp
  refine aw_hcallS (pc := 2431) (as9 := [aR (8, 0, 0, 0), aI (sI xs (i + 1)), aR (10, 0, 1, 0)]) F dL_law_2431 mh_L_294 cW (Nat.le_of_ble_eq_true rfl) (Nat.le_of_ble_eq_true rfl) (by omega) (fun r σ9 g9 => ?_)
  obtain ⟨M1, b1, ge, i8, f9, hr, ho⟩ := g9
  subst ge
  rw [hr]
  refine aw_istore5 (pc := 2434) F dL_law_2434 rfl hk.symm ?_
  refine aw_aload2 (pc := 2436) F dL_law_2436 ?_
  refine aw_aload0 (pc := 2437) F dL_law_2437 ?_
  refine aw_iload4 (pc := 2438) F dL_law_2438 ?_
  refine aw_iconst (pc := 2440) F dL_law_2440 ?_
  refine aw_iadd (pc := 2441) F dL_law_2441 ?_
  refine aw_sld (pc := 2442) F hX dL_law_2442 (by omega) hL ?_
  refine aw_gcallVI (pc := 2443) (as9 := [aI (sI xs (i + 1))]) F dL_law_2443 ml_L_296 rfl (by first | decide | (simp only [inB, cnt, rcnt]; omega)) (cR M1 b1 (h9.f9 f9)) (Nat.le_of_ble_eq_true rfl) (Nat.le_of_ble_eq_true rfl) (by omega) (fun v σ9 g9 => ?_)
  obtain ⟨M2, ge, i9, f8, ht, hv⟩ := g9
  subst ge
  refine aw_istore6 (pc := 2446) F dL_law_2446 rfl hk.symm ?_
  refine aw_aload2 (pc := 2448) F dL_law_2448 ?_
  refine aw_pcallV0 (pc := 2449) F dL_law_2449 ml_L_135 rfl (by first | decide | (simp only [inB, cnt, rcnt]; omega)) (ct9_thrown _ _) (Nat.le_of_ble_eq_true rfl) (Nat.le_of_ble_eq_true rfl) (by omega) ?_
  rw [ht]
  refine aw_iload5 (pc := 2452) F dL_law_2452 ?_
  refine aw_icmp_same (tgt := 2459) (pc := 2454) F dL_law_2454 (by decide) ?_
  refine aw_iload5 (pc := 2459) F dL_law_2459 ?_
  refine aw_if_ne (tgt := 2476) (pc := 2461) F dL_law_2461 (by decide) (by unfold inR; omega) (fun c5 => ?_) (fun c5 => ?_)
  · refine aw_goto (tgt := 2535) (pc := 2476) F dL_law_2476 (by decide) ?_
    exact head.fin ⟨_, i8.f8 f8, i9, hp'⟩ (by omega)
  · refine aw_aload3 (pc := 2464) F dL_law_2464 ?_
    refine aw_iconst (pc := 2465) F dL_law_2465 ?_
    refine aw_lald (pc := 2466) F dL_law_2466 rfl (by first | decide | (simp only [inB, cnt, rcnt]; omega)) (by decide) ?_
    rw [show M2 (10, 0, 1, 0) 0 = nrm V from (congrFun (f8 (10, 0, 1, 0) (by decide)) 0).trans (ho c5)]
    refine aw_iload6 (pc := 2467) F dL_law_2467 ?_
    rw [hv c5]
    refine aw_nrm ?_
    refine aw_i2l (pc := 2469) F dL_law_2469 nrm_in ?_
    refine aw_lcmp (pc := 2470) F (by first | exact nrm_in | (unfold inR; decide)) (by first | exact nrm_in | (unfold inR; decide)) dL_law_2470 ?_
    rw [cmp_same (by rfl)]
    refine aw_if_eq (tgt := 2476) (pc := 2471) F dL_law_2471 (by decide) inR0 (fun _ => ?_) (fun c7 => absurd rfl c7)
    refine aw_goto (tgt := 2535) (pc := 2476) F dL_law_2476 (by decide) ?_
    exact head.fin ⟨_, i8.f8 f8, i9, hp'⟩ (by omega)
theorem lc_47 {X : Cx} {K : Kx} {Ln : Nat} {xs : Nat → Int32} {U9 : Nat} (F : Fx X K cL_law RL (some .boolean) 60 U9 false) (hk : K.2.2.2.1 = 9) (hX : LX X K Ln xs) (hL : Ln ≤ 3072) (i : Int) (hi : 0 ≤ i ∧ i + 6 ≤ Ln) (M : Id4 → Int → Int) (b : Bool) (hI : INV M) (u : Nat) (hu : u + 8 ≤ U9) {Q : State → Prop} (head : HDL X K i u Q) : AW X K 2479 (lvH i) [] (M, R0 b) u Q := by
  obtain ⟨st, h8, h9, hp⟩ := hI
  refine aw_aload1 (pc := 2479) F dL_law_2479 ?_
  refine aw_aload0 (pc := 2480) F dL_law_2480 ?_
  refine aw_iload4 (pc := 2481) F dL_law_2481 ?_
  refine aw_iconst (pc := 2483) F dL_law_2483 ?_
  refine aw_iadd (pc := 2484) F dL_law_2484 ?_
  refine aw_sld (pc := 2485) F hX dL_law_2485 (by omega) hL ?_
  refine aw_aload3 (pc := 2486) F dL_law_2486 ?_
  obtain ⟨U8, t, V, st', hU, htb, hp', cW, cR⟩ := op_written M b st (sI xs (i + 1)) sI_in h8 hp
  refine aw_hcallS (pc := 2487) (as9 := [aR (8, 0, 0, 0), aI (sI xs (i + 1)), aR (10, 0, 1, 0)]) F dL_law_2487 mh_L_297 cW (Nat.le_of_ble_eq_true rfl) (Nat.le_of_ble_eq_true rfl) (by omega) (fun r σ9 g9 => ?_)
  obtain ⟨M1, b1, ge, i8, f9, hr, ho⟩ := g9
  subst ge
  rw [hr]
  refine aw_istore5 (pc := 2490) F dL_law_2490 rfl hk.symm ?_
  refine aw_aload2 (pc := 2492) F dL_law_2492 ?_
  refine aw_aload0 (pc := 2493) F dL_law_2493 ?_
  refine aw_iload4 (pc := 2494) F dL_law_2494 ?_
  refine aw_iconst (pc := 2496) F dL_law_2496 ?_
  refine aw_iadd (pc := 2497) F dL_law_2497 ?_
  refine aw_sld (pc := 2498) F hX dL_law_2498 (by omega) hL ?_
  refine aw_gcallVI (pc := 2499) (as9 := [aI (sI xs (i + 1))]) F dL_law_2499 ml_L_299 rfl (by first | decide | (simp only [inB, cnt, rcnt]; omega)) (cR M1 b1 (h9.f9 f9)) (Nat.le_of_ble_eq_true rfl) (Nat.le_of_ble_eq_true rfl) (by omega) (fun v σ9 g9 => ?_)
  obtain ⟨M2, ge, i9, f8, ht, hv⟩ := g9
  subst ge
  refine aw_istore6 (pc := 2502) F dL_law_2502 rfl hk.symm ?_
  refine aw_aload2 (pc := 2504) F dL_law_2504 ?_
  refine aw_pcallV0 (pc := 2505) F dL_law_2505 ml_L_135 rfl (by first | decide | (simp only [inB, cnt, rcnt]; omega)) (ct9_thrown _ _) (Nat.le_of_ble_eq_true rfl) (Nat.le_of_ble_eq_true rfl) (by omega) ?_
  rw [ht]
  refine aw_iload5 (pc := 2508) F dL_law_2508 ?_
  refine aw_icmp_same (tgt := 2515) (pc := 2510) F dL_law_2510 (by decide) ?_
  refine aw_iload5 (pc := 2515) F dL_law_2515 ?_
  refine aw_if_ne (tgt := 2532) (pc := 2517) F dL_law_2517 (by decide) (by unfold inR; omega) (fun c5 => ?_) (fun c5 => ?_)
  · refine aw_goto (tgt := 2535) (pc := 2532) F dL_law_2532 (by decide) ?_
    exact head.fin ⟨_, i8.f8 f8, i9, hp'⟩ (by omega)
  · refine aw_aload3 (pc := 2520) F dL_law_2520 ?_
    refine aw_iconst (pc := 2521) F dL_law_2521 ?_
    refine aw_lald (pc := 2522) F dL_law_2522 rfl (by first | decide | (simp only [inB, cnt, rcnt]; omega)) (by decide) ?_
    rw [show M2 (10, 0, 1, 0) 0 = nrm V from (congrFun (f8 (10, 0, 1, 0) (by decide)) 0).trans (ho c5)]
    refine aw_iload6 (pc := 2523) F dL_law_2523 ?_
    rw [hv c5]
    refine aw_nrm ?_
    refine aw_i2l (pc := 2525) F dL_law_2525 nrm_in ?_
    refine aw_lcmp (pc := 2526) F (by first | exact nrm_in | (unfold inR; decide)) (by first | exact nrm_in | (unfold inR; decide)) dL_law_2526 ?_
    rw [cmp_same (by rfl)]
    refine aw_if_eq (tgt := 2532) (pc := 2527) F dL_law_2527 (by decide) inR0 (fun _ => ?_) (fun c7 => absurd rfl c7)
    refine aw_goto (tgt := 2535) (pc := 2532) F dL_law_2532 (by decide) ?_
    exact head.fin ⟨_, i8.f8 f8, i9, hp'⟩ (by omega)
