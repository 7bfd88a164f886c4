/-! 9kb: the law's cases -/
theorem lc_12 {X : Cx} {K : Kx} {Ln : Nat} {xs : Nat → Int32} {U9 : Nat} (F : Fx X K cL_law RL (some .boolean) 60 U9 false) (hk : K.2.2.2.1 = 9) (hX : LX X K Ln xs) (hL : Ln ≤ 3072) (i : Int) (hi : 0 ≤ i ∧ i + 6 ≤ Ln) (M : Id4 → Int → Int) (b : Bool) (hI : INV M) (u : Nat) (hu : u + 8 ≤ U9) {Q : State → Prop} (head : HDL X K i u Q) : AW X K 734 (lvH i) [] (M, R0 b) u Q := by
  obtain ⟨st, h8, h9, hp⟩ := hI
  refine aw_aload1 (pc := 734) F dL_law_734 ?_
  refine aw_aload0 (pc := 735) F dL_law_735 ?_
  refine aw_iload4 (pc := 736) F dL_law_736 ?_
  refine aw_iconst (pc := 738) F dL_law_738 ?_
  refine aw_iadd (pc := 739) F dL_law_739 ?_
  refine aw_sld (pc := 740) F hX dL_law_740 (by omega) hL ?_
  refine aw_aload3 (pc := 741) F dL_law_741 ?_
  obtain ⟨U8, t, V, st', hU, htb, hp', hV, cW, cR⟩ := op_isKept M b st (sI xs (i + 1)) sI_in h8 hp
  refine aw_hcallS (pc := 742) (as9 := [aR (8, 0, 0, 0), aI (sI xs (i + 1)), aR (10, 0, 1, 0)]) F dL_law_742 mh_L_174 cW (Nat.le_of_ble_eq_true rfl) (Nat.le_of_ble_eq_true rfl) (by omega) (fun r σ9 g9 => ?_)
  obtain ⟨M1, b1, ge, i8, f9, hr, ho⟩ := g9
  subst ge
  rw [hr]
  refine aw_istore5 (pc := 745) F dL_law_745 rfl hk.symm ?_
  refine aw_aload2 (pc := 747) F dL_law_747 ?_
  refine aw_aload0 (pc := 748) F dL_law_748 ?_
  refine aw_iload4 (pc := 749) F dL_law_749 ?_
  refine aw_iconst (pc := 751) F dL_law_751 ?_
  refine aw_iadd (pc := 752) F dL_law_752 ?_
  refine aw_sld (pc := 753) F hX dL_law_753 (by omega) hL ?_
  refine aw_gcallVI (pc := 754) (as9 := [aI (sI xs (i + 1))]) F dL_law_754 ml_L_176 rfl (by first | decide | (simp only [inB, cnt, rcnt]; omega)) (cR M1 b1 (h9.f9 f9)) (Nat.le_of_ble_eq_true rfl) (Nat.le_of_ble_eq_true rfl) (by omega) (fun v σ9 g9 => ?_)
  obtain ⟨M2, ge, i9, f8, ht, hv⟩ := g9
  subst ge
  refine aw_istore6 (pc := 757) F dL_law_757 rfl hk.symm ?_
  refine aw_aload2 (pc := 759) F dL_law_759 ?_
  refine aw_pcallV0 (pc := 760) F dL_law_760 ml_L_135 rfl (by first | decide | (simp only [inB, cnt, rcnt]; omega)) (ct9_thrown _ _) (Nat.le_of_ble_eq_true rfl) (Nat.le_of_ble_eq_true rfl) (by omega) ?_
  rw [ht]
  refine aw_iload5 (pc := 763) F dL_law_763 ?_
  refine aw_icmp_same (tgt := 770) (pc := 765) F dL_law_765 (by decide) ?_
  refine aw_iload5 (pc := 770) F dL_law_770 ?_
  refine aw_if_ne (tgt := 794) (pc := 772) F dL_law_772 (by decide) (by unfold inR; omega) (fun c5 => ?_) (fun c5 => ?_)
  · refine aw_goto (tgt := 2535) (pc := 794) F dL_law_794 (by decide) ?_
    exact head.fin ⟨_, i8.f8 f8, i9, hp'⟩ (by omega)
  · refine aw_aload3 (pc := 775) F dL_law_775 ?_
    refine aw_iconst (pc := 776) F dL_law_776 ?_
    refine aw_lald (pc := 777) F dL_law_777 rfl (by first | decide | (simp only [inB, cnt, rcnt]; omega)) (by decide) ?_
    rw [show M2 (10, 0, 1, 0) 0 = nrm V from (congrFun (f8 (10, 0, 1, 0) (by decide)) 0).trans (ho c5)]
    refine aw_iload6 (pc := 778) F dL_law_778 ?_
    rw [hv c5]
    refine aw_if_eq (tgt := 787) (pc := 780) F dL_law_780 (by decide) (by rcases hV with h | h <;> rw [h] <;> unfold inR <;> decide) (fun c6 => ?_) (fun c6 => ?_)
    · rw [show nrm V = 0 by rw [c6]; rfl]
      refine aw_lconst (pc := 787) F dL_law_787 ?_
      refine aw_lcmp (pc := 788) F (by first | exact nrm_in | (unfold inR; decide)) (by first | exact nrm_in | (unfold inR; decide)) dL_law_788 ?_
      rw [cmp_same (by rfl)]
      refine aw_if_eq (tgt := 794) (pc := 789) F dL_law_789 (by decide) inR0 (fun _ => ?_) (fun c7 => absurd rfl c7)
      refine aw_goto (tgt := 2535) (pc := 794) F dL_law_794 (by decide) ?_
      exact head.fin ⟨_, i8.f8 f8, i9, hp'⟩ (by omega)
    · rw [show nrm V = 1 by rw [hV.resolve_left c6]; rfl]
      refine aw_lconst (pc := 783) F dL_law_783 ?_
      refine aw_goto (tgt := 788) (pc := 784) F dL_law_784 (by decide) ?_
      refine aw_lcmp (pc := 788) F (by first | exact nrm_in | (unfold inR; decide)) (by first | exact nrm_in | (unfold inR; decide)) dL_law_788 ?_
      rw [cmp_same (by rfl)]
      refine aw_if_eq (tgt := 794) (pc := 789) F dL_law_789 (by decide) inR0 (fun _ => ?_) (fun c7 => absurd rfl c7)
      refine aw_goto (tgt := 2535) (pc := 794) F dL_law_794 (by decide) ?_
      exact head.fin ⟨_, i8.f8 f8, i9, hp'⟩ (by omega)
theorem lc_13 {X : Cx} {K : Kx} {Ln : Nat} {xs : Nat → Int32} {U9 : Nat} (F : Fx X K cL_law RL (some .boolean) 60 U9 false) (hk : K.2.2.2.1 = 9) (hX : LX X K Ln xs) (hL : Ln ≤ 3072) (i : Int) (hi : 0 ≤ i ∧ i + 6 ≤ Ln) (M : Id4 → Int → Int) (b : Bool) (hI : INV M) (u : Nat) (hu : u + 8 ≤ U9) {Q : State → Prop} (head : HDL X K i u Q) : AW X K 797 (lvH i) [] (M, R0 b) u Q := by
  obtain ⟨st, h8, h9, hp⟩ := hI
  refine aw_aload1 (pc := 797) F dL_law_797 ?_
  obtain ⟨V, st', hp', c8, c9⟩ := op_broken M b st   h8 hp
  refine aw_gcallVI (pc := 798) (as9 := []) F dL_law_798 ml_L_177 rfl (by first | decide | (simp only [inB, cnt, rcnt]; omega)) c8 (Nat.le_of_ble_eq_true rfl) (Nat.le_of_ble_eq_true rfl) (by omega) (fun v σ9 g9 => ?_)
  obtain ⟨M1, ge, i8, f9, hv⟩ := g9
  subst ge
  rw [hv]
  refine aw_aload2 (pc := 801) F dL_law_801 ?_
  refine aw_gcallVI (pc := 802) (as9 := []) F dL_law_802 ml_L_180 rfl (by first | decide | (simp only [inB, cnt, rcnt]; omega)) (c9 M1 b (h9.f9 f9)) (Nat.le_of_ble_eq_true rfl) (Nat.le_of_ble_eq_true rfl) (by omega) (fun v σ9 g9 => ?_)
  obtain ⟨M2, ge, i9, f8, -, hv2⟩ := g9
  subst ge
  rw [hv2 rfl]
  refine aw_icmp_same (tgt := 2535) (pc := 805) F dL_law_805 (by decide) ?_
  exact head.fin ⟨_, i8.f8 f8, i9, hp'⟩ (by omega)
theorem lc_14 {X : Cx} {K : Kx} {Ln : Nat} {xs : Nat → Int32} {U9 : Nat} (F : Fx X K cL_law RL (some .boolean) 60 U9 false) (hk : K.2.2.2.1 = 9) (hX : LX X K Ln xs) (hL : Ln ≤ 3072) (i : Int) (hi : 0 ≤ i ∧ i + 6 ≤ Ln) (M : Id4 → Int → Int) (b : Bool) (hI : INV M) (u : Nat) (hu : u + 8 ≤ U9) {Q : State → Prop} (head : HDL X K i u Q) : AW X K 810 (lvH i) [] (M, R0 b) u Q := by
  obtain ⟨st, h8, h9, hp⟩ := hI
  refine aw_aload1 (pc := 810) F dL_law_810 ?_
  refine aw_aload3 (pc := 811) F dL_law_811 ?_
  obtain ⟨U8, t, V, st', hU, htb, hp', cW, cR⟩ := op_firstBroken M b st   h8 hp
  refine aw_hcallS (pc := 812) (as9 := [aR (8, 0, 0, 0), aR (10, 0, 1, 0)]) F dL_law_812 mh_L_181 cW (Nat.le_of_ble_eq_true rfl) (Nat.le_of_ble_eq_true rfl) (by omega) (fun r σ9 g9 => ?_)
  obtain ⟨M1, b1, ge, i8, f9, hr, ho⟩ := g9
  subst ge
  rw [hr]
  refine aw_istore5 (pc := 815) F dL_law_815 rfl hk.symm ?_
  refine aw_aload2 (pc := 817) F dL_law_817 ?_
  refine aw_gcallVI (pc := 818) (as9 := []) F dL_law_818 ml_L_184 rfl (by first | decide | (simp only [inB, cnt, rcnt]; omega)) (cR M1 b1 (h9.f9 f9)) (Nat.le_of_ble_eq_true rfl) (Nat.le_of_ble_eq_true rfl) (by omega) (fun v σ9 g9 => ?_)
  obtain ⟨M2, ge, i9, f8, ht, hv⟩ := g9
  subst ge
  refine aw_istore6 (pc := 821) F dL_law_821 rfl hk.symm ?_
  refine aw_aload2 (pc := 823) F dL_law_823 ?_
  refine aw_pcallV0 (pc := 824) F dL_law_824 ml_L_135 rfl (by first | decide | (simp only [inB, cnt, rcnt]; omega)) (ct9_thrown _ _) (Nat.le_of_ble_eq_true rfl) (Nat.le_of_ble_eq_true rfl) (by omega) ?_
  rw [ht]
  refine aw_iload5 (pc := 827) F dL_law_827 ?_
  refine aw_icmp_same (tgt := 834) (pc := 829) F dL_law_829 (by decide) ?_
  refine aw_iload5 (pc := 834) F dL_law_834 ?_
  refine aw_if_ne (tgt := 851) (pc := 836) F dL_law_836 (by decide) (by unfold inR; omega) (fun c5 => ?_) (fun c5 => ?_)
  · refine aw_goto (tgt := 2535) (pc := 851) F dL_law_851 (by decide) ?_
    exact head.fin ⟨_, i8.f8 f8, i9, hp'⟩ (by omega)
  · refine aw_aload3 (pc := 839) F dL_law_839 ?_
    refine aw_iconst (pc := 840) F dL_law_840 ?_
    refine aw_lald (pc := 841) F dL_law_841 rfl (by first | decide | (simp only [inB, cnt, rcnt]; omega)) (by decide) ?_
    rw [show M2 (10, 0, 1, 0) 0 = nrm V from (congrFun (f8 (10, 0, 1, 0) (by decide)) 0).trans (ho c5)]
    refine aw_iload6 (pc := 842) F dL_law_842 ?_
    rw [hv c5]
    refine aw_nrm ?_
    refine aw_i2l (pc := 844) F dL_law_844 nrm_in ?_
    refine aw_lcmp (pc := 845) F (by first | exact nrm_in | (unfold inR; decide)) (by first | exact nrm_in | (unfold inR; decide)) dL_law_845 ?_
    rw [cmp_same (by rfl)]
    refine aw_if_eq (tgt := 851) (pc := 846) F dL_law_846 (by decide) inR0 (fun _ => ?_) (fun c7 => absurd rfl c7)
    refine aw_goto (tgt := 2535) (pc := 851) F dL_law_851 (by decide) ?_
    exact head.fin ⟨_, i8.f8 f8, i9, hp'⟩ (by omega)
theorem lc_15 {X : Cx} {K : Kx} {Ln : Nat} {xs : Nat → Int32} {U9 : Nat} (F : Fx X K cL_law RL (some .boolean) 60 U9 false) (hk : K.2.2.2.1 = 9) (hX : LX X K Ln xs) (hL : Ln ≤ 3072) (i : Int) (hi : 0 ≤ i ∧ i + 6 ≤ Ln) (M : Id4 → Int → Int) (b : Bool) (hI : INV M) (u : Nat) (hu : u + 8 ≤ U9) {Q : State → Prop} (head : HDL X K i u Q) : AW X K 854 (lvH i) [] (M, R0 b) u Q := by
  obtain ⟨st, h8, h9, hp⟩ := hI
  refine aw_aload1 (pc := 854) F dL_law_854 ?_
  obtain ⟨V, st', hp', c8, c9⟩ := op_cost M b st   h8 hp
  refine aw_gcallVI (pc := 855) (as9 := []) F dL_law_855 ml_L_185 rfl (by first | decide | (simp only [inB, cnt, rcnt]; omega)) c8 (Nat.le_of_ble_eq_true rfl) (Nat.le_of_ble_eq_true rfl) (by omega) (fun v σ9 g9 => ?_)
  obtain ⟨M1, ge, i8, f9, hv⟩ := g9
  subst ge
  rw [hv]
  refine aw_aload2 (pc := 858) F dL_law_858 ?_
  refine aw_gcallVI (pc := 859) (as9 := []) F dL_law_859 ml_L_188 rfl (by first | decide | (simp only [inB, cnt, rcnt]; omega)) (c9 M1 b (h9.f9 f9)) (Nat.le_of_ble_eq_true rfl) (Nat.le_of_ble_eq_true rfl) (by omega) (fun v σ9 g9 => ?_)
  obtain ⟨M2, ge, i9, f8, -, hv2⟩ := g9
  subst ge
  rw [hv2 rfl]
  refine aw_icmp_same (tgt := 2535) (pc := 862) F dL_law_862 (by decide) ?_
  exact head.fin ⟨_, i8.f8 f8, i9, hp'⟩ (by omega)
theorem lc_17 {X : Cx} {K : Kx} {Ln : Nat} {xs : Nat → Int32} {U9 : Nat} (F : Fx X K cL_law RL (some .boolean) 60 U9 false) (hk : K.2.2.2.1 = 9) (hX : LX X K Ln xs) (hL : Ln ≤ 3072) (i : Int) (hi : 0 ≤ i ∧ i + 6 ≤ Ln) (M : Id4 → Int → Int) (b : Bool) (hI : INV M) (u : Nat) (hu : u + 8 ≤ U9) {Q : State → Prop} (head : HDL X K i u Q) : AW X K 910 (lvH i) [] (M, R0 b) u Q := by
  obtain ⟨st, h8, h9, hp⟩ := hI
  refine aw_aload1 (pc := 910) F dL_law_910 ?_
  refine aw_aload0 (pc := 911) F dL_law_911 ?_
  refine aw_iload4 (pc := 912) F dL_law_912 ?_
  refine aw_iconst (pc := 914) F dL_law_914 ?_
  refine aw_iadd (pc := 915) F dL_law_915 ?_
  refine aw_sld (pc := 916) F hX dL_law_916 (by omega) hL ?_
  refine aw_aload0 (pc := 917) F dL_law_917 ?_
  refine aw_iload4 (pc := 918) F dL_law_918 ?_
  refine aw_iconst (pc := 920) F dL_law_920 ?_
  refine aw_iadd (pc := 921) F dL_law_921 ?_
  refine aw_sld (pc := 922) F hX dL_law_922 (by omega) hL ?_
  refine aw_aload0 (pc := 923) F dL_law_923 ?_
  refine aw_iload4 (pc := 924) F dL_law_924 ?_
  refine aw_iconst (pc := 926) F dL_law_926 ?_
  refine aw_iadd (pc := 927) F dL_law_927 ?_
  refine aw_sld (pc := 928) F hX dL_law_928 (by omega) hL ?_
  refine aw_if_eq (tgt := 936) (pc := 929) F dL_law_929 (by decide) sI_in (fun cz => ?_) (fun cz => ?_)
  · refine aw_iconst (pc := 936) F dL_law_936 ?_
    refine aw_aload3 (pc := 937) F dL_law_937 ?_
    obtain ⟨U8, t, V, st', hU, htb, hp', cW, cR⟩ := op_allowed M b st (sI xs (i + 1)) (sI xs (i + 2)) 0 sI_in sI_in (Or.inl rfl) h8 hp
    refine aw_hcallS (pc := 938) (as9 := [aR (8, 0, 0, 0), aI (sI xs (i + 1)), aI (sI xs (i + 2)), aI 0, aR (10, 0, 1, 0)]) F dL_law_938 mh_L_194 cW (Nat.le_of_ble_eq_true rfl) (Nat.le_of_ble_eq_true rfl) (by omega) (fun r σ9 g9 => ?_)
    obtain ⟨M1, b1, ge, i8, f9, hr, ho⟩ := g9
    subst ge
    rw [hr]
    refine aw_istore5 (pc := 941) F dL_law_941 rfl hk.symm ?_
    refine aw_aload2 (pc := 943) F dL_law_943 ?_
    refine aw_aload0 (pc := 944) F dL_law_944 ?_
    refine aw_iload4 (pc := 945) F dL_law_945 ?_
    refine aw_iconst (pc := 947) F dL_law_947 ?_
    refine aw_iadd (pc := 948) F dL_law_948 ?_
    refine aw_sld (pc := 949) F hX dL_law_949 (by omega) hL ?_
    refine aw_aload0 (pc := 950) F dL_law_950 ?_
    refine aw_iload4 (pc := 951) F dL_law_951 ?_
    refine aw_iconst (pc := 953) F dL_law_953 ?_
    refine aw_iadd (pc := 954) F dL_law_954 ?_
    refine aw_sld (pc := 955) F hX dL_law_955 (by omega) hL ?_
    refine aw_aload0 (pc := 956) F dL_law_956 ?_
    refine aw_iload4 (pc := 957) F dL_law_957 ?_
    refine aw_iconst (pc := 959) F dL_law_959 ?_
    refine aw_iadd (pc := 960) F dL_law_960 ?_
    refine aw_sld (pc := 961) F hX dL_law_961 (by omega) hL ?_
    refine aw_if_eq (tgt := 969) (pc := 962) F dL_law_962 (by decide) sI_in (fun _ => ?_) (fun c9 => absurd cz c9)
    refine aw_iconst (pc := 969) F dL_law_969 ?_
    refine aw_gcallVI (pc := 970) (as9 := [aI (sI xs (i + 1)), aI (sI xs (i + 2)), aI 0]) F dL_law_970 ml_L_197 rfl (by first | decide | (simp only [inB, cnt, rcnt]; omega)) (cR M1 b1 (h9.f9 f9)) (Nat.le_of_ble_eq_true rfl) (Nat.le_of_ble_eq_true rfl) (by omega) (fun v σ9 g9 => ?_)
    obtain ⟨M2, ge, i9, f8, ht, hv⟩ := g9
    subst ge
    refine aw_istore6 (pc := 973) F dL_law_973 rfl hk.symm ?_
    refine aw_aload2 (pc := 975) F dL_law_975 ?_
    refine aw_pcallV0 (pc := 976) F dL_law_976 ml_L_135 rfl (by first | decide | (simp only [inB, cnt, rcnt]; omega)) (ct9_thrown _ _) (Nat.le_of_ble_eq_true rfl) (Nat.le_of_ble_eq_true rfl) (by omega) ?_
    rw [ht]
    refine aw_iload5 (pc := 979) F dL_law_979 ?_
    refine aw_icmp_same (tgt := 986) (pc := 981) F dL_law_981 (by decide) ?_
    refine aw_iload5 (pc := 986) F dL_law_986 ?_
    refine aw_if_ne (tgt := 1003) (pc := 988) F dL_law_988 (by decide) (by unfold inR; omega) (fun c5 => ?_) (fun c5 => ?_)
    · refine aw_goto (tgt := 2535) (pc := 1003) F dL_law_1003 (by decide) ?_
      exact head.fin ⟨_, i8.f8 f8, i9, hp'⟩ (by omega)
    · refine aw_aload3 (pc := 991) F dL_law_991 ?_
      refine aw_iconst (pc := 992) F dL_law_992 ?_
      refine aw_lald (pc := 993) F dL_law_993 rfl (by first | decide | (simp only [inB, cnt, rcnt]; omega)) (by decide) ?_
      rw [show M2 (10, 0, 1, 0) 0 = nrm V from (congrFun (f8 (10, 0, 1, 0) (by decide)) 0).trans (ho c5)]
      refine aw_iload6 (pc := 994) F dL_law_994 ?_
      rw [hv c5]
      refine aw_nrm ?_
      refine aw_i2l (pc := 996) F dL_law_996 nrm_in ?_
      refine aw_lcmp (pc := 997) F (by first | exact nrm_in | (unfold inR; decide)) (by first | exact nrm_in | (unfold inR; decide)) dL_law_997 ?_
      rw [cmp_same (by rfl)]
      refine aw_if_eq (tgt := 1003) (pc := 998) F dL_law_998 (by decide) inR0 (fun _ => ?_) (fun c7 => absurd rfl c7)
      refine aw_goto (tgt := 2535) (pc := 1003) F dL_law_1003 (by decide) ?_
      exact head.fin ⟨_, i8.f8 f8, i9, hp'⟩ (by omega)
  · refine aw_iconst (pc := 932) F dL_law_932 ?_
    refine aw_goto (tgt := 937) (pc := 933) F dL_law_933 (by decide) ?_
    refine aw_aload3 (pc := 937) F dL_law_937 ?_
    obtain ⟨U8, t, V, st', hU, htb, hp', cW, cR⟩ := op_allowed M b st (sI xs (i + 1)) (sI xs (i + 2)) 1 sI_in sI_in (Or.inr rfl) h8 hp
    refine aw_hcallS (pc := 938) (as9 := [aR (8, 0, 0, 0), aI (sI xs (i + 1)), aI (sI xs (i + 2)), aI 1, aR (10, 0, 1, 0)]) F dL_law_938 mh_L_194 cW (Nat.le_of_ble_eq_true rfl) (Nat.le_of_ble_eq_true rfl) (by omega) (fun r σ9 g9 => ?_)
    obtain ⟨M1, b1, ge, i8, f9, hr, ho⟩ := g9
    subst ge
    rw [hr]
    refine aw_istore5 (pc := 941) F dL_law_941 rfl hk.symm ?_
    refine aw_aload2 (pc := 943) F dL_law_943 ?_
    refine aw_aload0 (pc := 944) F dL_law_944 ?_
    refine aw_iload4 (pc := 945) F dL_law_945 ?_
    refine aw_iconst (pc := 947) F dL_law_947 ?_
    refine aw_iadd (pc := 948) F dL_law_948 ?_
    refine aw_sld (pc := 949) F hX dL_law_949 (by omega) hL ?_
    refine aw_aload0 (pc := 950) F dL_law_950 ?_
    refine aw_iload4 (pc := 951) F dL_law_951 ?_
    refine aw_iconst (pc := 953) F dL_law_953 ?_
    refine aw_iadd (pc := 954) F dL_law_954 ?_
    refine aw_sld (pc := 955) F hX dL_law_955 (by omega) hL ?_
    refine aw_aload0 (pc := 956) F dL_law_956 ?_
    refine aw_iload4 (pc := 957) F dL_law_957 ?_
    refine aw_iconst (pc := 959) F dL_law_959 ?_
    refine aw_iadd (pc := 960) F dL_law_960 ?_
    refine aw_sld (pc := 961) F hX dL_law_961 (by omega) hL ?_
    refine aw_if_eq (tgt := 969) (pc := 962) F dL_law_962 (by decide) sI_in (fun c9 => absurd c9 cz) (fun _ => ?_)
    refine aw_iconst (pc := 965) F dL_law_965 ?_
    refine aw_goto (tgt := 970) (pc := 966) F dL_law_966 (by decide) ?_
    refine aw_gcallVI (pc := 970) (as9 := [aI (sI xs (i + 1)), aI (sI xs (i + 2)), aI 1]) F dL_law_970 ml_L_197 rfl (by first | decide | (simp only [inB, cnt, rcnt]; omega)) (cR M1 b1 (h9.f9 f9)) (Nat.le_of_ble_eq_true rfl) (Nat.le_of_ble_eq_true rfl) (by omega) (fun v σ9 g9 => ?_)
    obtain ⟨M2, ge, i9, f8, ht, hv⟩ := g9
    subst ge
    refine aw_istore6 (pc := 973) F dL_law_973 rfl hk.symm ?_
    refine aw_aload2 (pc := 975) F dL_law_975 ?_
    refine aw_pcallV0 (pc := 976) F dL_law_976 ml_L_135 rfl (by first | decide | (simp only [inB, cnt, rcnt]; omega)) (ct9_thrown _ _) (Nat.le_of_ble_eq_true rfl) (Nat.le_of_ble_eq_true rfl) (by omega) ?_
    rw [ht]
    refine aw_iload5 (pc := 979) F dL_law_979 ?_
    refine aw_icmp_same (tgt := 986) (pc := 981) F dL_law_981 (by decide) ?_
    refine aw_iload5 (pc := 986) F dL_law_986 ?_
    refine aw_if_ne (tgt := 1003) (pc := 988) F dL_law_988 (by decide) (by unfold inR; omega) (fun c5 => ?_) (fun c5 => ?_)
    · refine aw_goto (tgt := 2535) (pc := 1003) F dL_law_1003 (by decide) ?_
      exact head.fin ⟨_, i8.f8 f8, i9, hp'⟩ (by omega)
    · refine aw_aload3 (pc := 991) F dL_law_991 ?_
      refine aw_iconst (pc := 992) F dL_law_992 ?_
      refine aw_lald (pc := 993) F dL_law_993 rfl (by first | decide | (simp only [inB, cnt, rcnt]; omega)) (by decide) ?_
      rw [show M2 (10, 0, 1, 0) 0 = nrm V from (congrFun (f8 (10, 0, 1, 0) (by decide)) 0).trans (ho c5)]
      refine aw_iload6 (pc := 994) F dL_law_994 ?_
      rw [hv c5]
      refine aw_nrm ?_
      refine aw_i2l (pc := 996) F dL_law_996 nrm_in ?_
      refine aw_lcmp (pc := 997) F (by first | exact nrm_in | (unfold inR; decide)) (by first | exact nrm_in | (unfold inR; decide)) dL_law_997 ?_
      rw [cmp_same (by rfl)]
      refine aw_if_eq (tgt := 1003) (pc := 998) F dL_law_998 (by decide) inR0 (fun _ => ?_) (fun c7 => absurd rfl c7)
      refine aw_goto (tgt := 2535) (pc := 1003) F dL_law_1003 (by decide) ?_
      exact head.fin ⟨_, i8.f8 f8, i9, hp'⟩ (by omega)
theorem lc_18 {X : Cx} {K : Kx} {Ln : Nat} {xs : Nat → Int32} {U9 : Nat} (F : Fx X K cL_law RL (some .boolean) 60 U9 false) (hk : K.2.2.2.1 = 9) (hX : LX X K Ln xs) (hL : Ln ≤ 3072) (i : Int) (hi : 0 ≤ i ∧ i + 6 ≤ Ln) (M : Id4 → Int → Int) (b : Bool) (hI : INV M) (u : Nat) (hu : u + 8 ≤ U9) {Q : State → Prop} (head : HDL X K i u Q) : AW X K 1006 (lvH i) [] (M, R0 b) u Q := by
  obtain ⟨st, h8, h9, hp⟩ := hI
  refine aw_aload1 (pc := 1006) F dL_law_1006 ?_
  refine aw_aload0 (pc := 1007) F dL_law_1007 ?_
  refine aw_iload4 (pc := 1008) F dL_law_1008 ?_
  refine aw_iconst (pc := 1010) F dL_law_1010 ?_
  refine aw_iadd (pc := 1011) F dL_law_1011 ?_
  refine aw_sld (pc := 1012) F hX dL_law_1012 (by omega) hL ?_
  refine aw_aload0 (pc := 1013) F dL_law_1013 ?_
  refine aw_iload4 (pc := 1014) F dL_law_1014 ?_
  refine aw_iconst (pc := 1016) F dL_law_1016 ?_
  refine aw_iadd (pc := 1017) F dL_law_1017 ?_
  refine aw_sld (pc := 1018) F hX dL_law_1018 (by omega) hL ?_
  refine aw_aload0 (pc := 1019) F dL_law_1019 ?_
  refine aw_iload4 (pc := 1020) F dL_law_1020 ?_
  refine aw_iconst (pc := 1022) F dL_law_1022 ?_
  refine aw_iadd (pc := 1023) F dL_law_1023 ?_
  refine aw_sld (pc := 1024) F hX dL_law_1024 (by omega) hL ?_
  refine aw_aload3 (pc := 1025) F dL_law_1025 ?_
  obtain ⟨U8, t, V, st', hU, htb, hp', hV, cW, cR⟩ := op_isAllowed M b st (sI xs (i + 1)) (sI xs (i + 2)) (sI xs (i + 3)) sI_in sI_in sI_in h8 hp
  refine aw_hcallS (pc := 1026) (as9 := [aR (8, 0, 0, 0), aI (sI xs (i + 1)), aI (sI xs (i + 2)), aI (sI xs (i + 3)), aR (10, 0, 1, 0)]) F dL_law_1026 mh_L_198 cW (Nat.le_of_ble_eq_true rfl) (Nat.le_of_ble_eq_true rfl) (by omega) (fun r σ9 g9 => ?_)
  obtain ⟨M1, b1, ge, i8, f9, hr, ho⟩ := g9
  subst ge
  rw [hr]
  refine aw_istore5 (pc := 1029) F dL_law_1029 rfl hk.symm ?_
  refine aw_aload2 (pc := 1031) F dL_law_1031 ?_
  refine aw_aload0 (pc := 1032) F dL_law_1032 ?_
  refine aw_iload4 (pc := 1033) F dL_law_1033 ?_
  refine aw_iconst (pc := 1035) F dL_law_1035 ?_
  refine aw_iadd (pc := 1036) F dL_law_1036 ?_
  refine aw_sld (pc := 1037) F hX dL_law_1037 (by omega) hL ?_
  refine aw_aload0 (pc := 1038) F dL_law_1038 ?_
  refine aw_iload4 (pc := 1039) F dL_law_1039 ?_
  refine aw_iconst (pc := 1041) F dL_law_1041 ?_
  refine aw_iadd (pc := 1042) F dL_law_1042 ?_
  refine aw_sld (pc := 1043) F hX dL_law_1043 (by omega) hL ?_
  refine aw_aload0 (pc := 1044) F dL_law_1044 ?_
  refine aw_iload4 (pc := 1045) F dL_law_1045 ?_
  refine aw_iconst (pc := 1047) F dL_law_1047 ?_
  refine aw_iadd (pc := 1048) F dL_law_1048 ?_
  refine aw_sld (pc := 1049) F hX dL_law_1049 (by omega) hL ?_
  refine aw_gcallVI (pc := 1050) (as9 := [aI (sI xs (i + 1)), aI (sI xs (i + 2)), aI (sI xs (i + 3))]) F dL_law_1050 ml_L_201 rfl (by first | decide | (simp only [inB, cnt, rcnt]; omega)) (cR M1 b1 (h9.f9 f9)) (Nat.le_of_ble_eq_true rfl) (Nat.le_of_ble_eq_true rfl) (by omega) (fun v σ9 g9 => ?_)
  obtain ⟨M2, ge, i9, f8, ht, hv⟩ := g9
  subst ge
  refine aw_istore6 (pc := 1053) F dL_law_1053 rfl hk.symm ?_
  refine aw_aload2 (pc := 1055) F dL_law_1055 ?_
  refine aw_pcallV0 (pc := 1056) F dL_law_1056 ml_L_135 rfl (by first | decide | (simp only [inB, cnt, rcnt]; omega)) (ct9_thrown _ _) (Nat.le_of_ble_eq_true rfl) (Nat.le_of_ble_eq_true rfl) (by omega) ?_
  rw [ht]
  refine aw_iload5 (pc := 1059) F dL_law_1059 ?_
  refine aw_icmp_same (tgt := 1066) (pc := 1061) F dL_law_1061 (by decide) ?_
  refine aw_iload5 (pc := 1066) F dL_law_1066 ?_
  refine aw_if_ne (tgt := 1090) (pc := 1068) F dL_law_1068 (by decide) (by unfold inR; omega) (fun c5 => ?_) (fun c5 => ?_)
  · refine aw_goto (tgt := 2535) (pc := 1090) F dL_law_1090 (by decide) ?_
    exact head.fin ⟨_, i8.f8 f8, i9, hp'⟩ (by omega)
  · refine aw_aload3 (pc := 1071) F dL_law_1071 ?_
    refine aw_iconst (pc := 1072) F dL_law_1072 ?_
    refine aw_lald (pc := 1073) F dL_law_1073 rfl (by first | decide | (simp only [inB, cnt, rcnt]; omega)) (by decide) ?_
    rw [show M2 (10, 0, 1, 0) 0 = nrm V from (congrFun (f8 (10, 0, 1, 0) (by decide)) 0).trans (ho c5)]
    refine aw_iload6 (pc := 1074) F dL_law_1074 ?_
    rw [hv c5]
    refine aw_if_eq (tgt := 1083) (pc := 1076) F dL_law_1076 (by decide) (by rcases hV with h | h <;> rw [h] <;> unfold inR <;> decide) (fun c6 => ?_) (fun c6 => ?_)
    · rw [show nrm V = 0 by rw [c6]; rfl]
      refine aw_lconst (pc := 1083) F dL_law_1083 ?_
      refine aw_lcmp (pc := 1084) F (by first | exact nrm_in | (unfold inR; decide)) (by first | exact nrm_in | (unfold inR; decide)) dL_law_1084 ?_
      rw [cmp_same (by rfl)]
      refine aw_if_eq (tgt := 1090) (pc := 1085) F dL_law_1085 (by decide) inR0 (fun _ => ?_) (fun c7 => absurd rfl c7)
      refine aw_goto (tgt := 2535) (pc := 1090) F dL_law_1090 (by decide) ?_
      exact head.fin ⟨_, i8.f8 f8, i9, hp'⟩ (by omega)
    · rw [show nrm V = 1 by rw [hV.resolve_left c6]; rfl]
      refine aw_lconst (pc := 1079) F dL_law_1079 ?_
      refine aw_goto (tgt := 1084) (pc := 1080) F dL_law_1080 (by decide) ?_
      refine aw_lcmp (pc := 1084) F (by first | exact nrm_in | (unfold inR; decide)) (by first | exact nrm_in | (unfold inR; decide)) dL_law_1084 ?_
      rw [cmp_same (by rfl)]
      refine aw_if_eq (tgt := 1090) (pc := 1085) F dL_law_1085 (by decide) inR0 (fun _ => ?_) (fun c7 => absurd rfl c7)
      refine aw_goto (tgt := 2535) (pc := 1090) F dL_law_1090 (by decide) ?_
      exact head.fin ⟨_, i8.f8 f8, i9, hp'⟩ (by omega)
theorem lc_19 {X : Cx} {K : Kx} {Ln : Nat} {xs : Nat → Int32} {U9 : Nat} (F : Fx X K cL_law RL (some .boolean) 60 U9 false) (hk : K.2.2.2.1 = 9) (hX : LX X K Ln xs) (hL : Ln ≤ 3072) (i : Int) (hi : 0 ≤ i ∧ i + 6 ≤ Ln) (M : Id4 → Int → Int) (b : Bool) (hI : INV M) (u : Nat) (hu : u + 8 ≤ U9) {Q : State → Prop} (head : HDL X K i u Q) : AW X K 1093 (lvH i) [] (M, R0 b) u Q := by
  obtain ⟨st, h8, h9, hp⟩ := hI
  refine aw_aload1 (pc := 1093) F dL_law_1093 ?_
  obtain ⟨V, st', hp', c8, c9⟩ := op_rounds M b st   h8 hp
  refine aw_gcallVI (pc := 1094) (as9 := []) F dL_law_1094 ml_L_202 rfl (by first | decide | (simp only [inB, cnt, rcnt]; omega)) c8 (Nat.le_of_ble_eq_true rfl) (Nat.le_of_ble_eq_true rfl) (by omega) (fun v σ9 g9 => ?_)
  obtain ⟨M1, ge, i8, f9, hv⟩ := g9
  subst ge
  rw [hv]
  refine aw_aload2 (pc := 1097) F dL_law_1097 ?_
  refine aw_gcallVI (pc := 1098) (as9 := []) F dL_law_1098 ml_L_205 rfl (by first | decide | (simp only [inB, cnt, rcnt]; omega)) (c9 M1 b (h9.f9 f9)) (Nat.le_of_ble_eq_true rfl) (Nat.le_of_ble_eq_true rfl) (by omega) (fun v σ9 g9 => ?_)
  obtain ⟨M2, ge, i9, f8, -, hv2⟩ := g9
  subst ge
  rw [hv2 rfl]
  refine aw_icmp_same (tgt := 2535) (pc := 1101) F dL_law_1101 (by decide) ?_
  exact head.fin ⟨_, i8.f8 f8, i9, hp'⟩ (by omega)
theorem lc_20 {X : Cx} {K : Kx} {Ln : Nat} {xs : Nat → Int32} {U9 : Nat} (F : Fx X K cL_law RL (some .boolean) 60 U9 false) (hk : K.2.2.2.1 = 9) (hX : LX X K Ln xs) (hL : Ln ≤ 3072) (i : Int) (hi : 0 ≤ i ∧ i + 6 ≤ Ln) (M : Id4 → Int → Int) (b : Bool) (hI : INV M) (u : Nat) (hu : u + 8 ≤ U9) {Q : State → Prop} (head : HDL X K i u Q) : AW X K 1106 (lvH i) [] (M, R0 b) u Q := by
  obtain ⟨st, h8, h9, hp⟩ := hI
  refine aw_aload1 (pc := 1106) F dL_law_1106 ?_
  obtain ⟨V, st', hp', c8, c9⟩ := op_isTight M b st   h8 hp
  refine aw_gcallVI (pc := 1107) (as9 := []) F dL_law_1107 ml_L_206 rfl (by first | decide | (simp only [inB, cnt, rcnt]; omega)) c8 (Nat.le_of_ble_eq_true rfl) (Nat.le_of_ble_eq_true rfl) (by omega) (fun v σ9 g9 => ?_)
  obtain ⟨M1, ge, i8, f9, hv⟩ := g9
  subst ge
  rw [hv]
  refine aw_aload2 (pc := 1110) F dL_law_1110 ?_
  refine aw_gcallVI (pc := 1111) (as9 := []) F dL_law_1111 ml_L_210 rfl (by first | decide | (simp only [inB, cnt, rcnt]; omega)) (c9 M1 b (h9.f9 f9)) (Nat.le_of_ble_eq_true rfl) (Nat.le_of_ble_eq_true rfl) (by omega) (fun v σ9 g9 => ?_)
  obtain ⟨M2, ge, i9, f8, -, hv2⟩ := g9
  subst ge
  rw [hv2 rfl]
  refine aw_icmp_same (tgt := 2535) (pc := 1114) F dL_law_1114 (by decide) ?_
  exact head.fin ⟨_, i8.f8 f8, i9, hp'⟩ (by omega)
theorem lc_21 {X : Cx} {K : Kx} {Ln : Nat} {xs : Nat → Int32} {U9 : Nat} (F : Fx X K cL_law RL (some .boolean) 60 U9 false) (hk : K.2.2.2.1 = 9) (hX : LX X K Ln xs) (hL : Ln ≤ 3072) (i : Int) (hi : 0 ≤ i ∧ i + 6 ≤ Ln) (M : Id4 → Int → Int) (b : Bool) (hI : INV M) (u : Nat) (hu : u + 8 ≤ U9) {Q : State → Prop} (head : HDL X K i u Q) : AW X K 1119 (lvH i) [] (M, R0 b) u Q := by
  obtain ⟨st, h8, h9, hp⟩ := hI
  refine aw_aload1 (pc := 1119) F dL_law_1119 ?_
  refine aw_aload0 (pc := 1120) F dL_law_1120 ?_
  refine aw_iload4 (pc := 1121) F dL_law_1121 ?_
  refine aw_iconst (pc := 1123) F dL_law_1123 ?_
  refine aw_iadd (pc := 1124) F dL_law_1124 ?_
  refine aw_sld (pc := 1125) F hX dL_law_1125 (by omega) hL ?_
  refine aw_aload0 (pc := 1126) F dL_law_1126 ?_
  refine aw_iload4 (pc := 1127) F dL_law_1127 ?_
  refine aw_iconst (pc := 1129) F dL_law_1129 ?_
  refine aw_iadd (pc := 1130) F dL_law_1130 ?_
  refine aw_sld (pc := 1131) F hX dL_law_1131 (by omega) hL ?_
  refine aw_if_eq (tgt := 1139) (pc := 1132) F dL_law_1132 (by decide) sI_in (fun cz => ?_) (fun cz => ?_)
  · refine aw_iconst (pc := 1139) F dL_law_1139 ?_
    refine aw_aload3 (pc := 1140) F dL_law_1140 ?_
    obtain ⟨U8, t, V, st', hU, htb, hp', cW, cR⟩ := op_bound M b st (sI xs (i + 1)) 0 sI_in (Or.inl rfl) h8 hp
    refine aw_hcallS (pc := 1141) (as9 := [aR (8, 0, 0, 0), aI (sI xs (i + 1)), aI 0, aR (10, 0, 1, 0)]) F dL_law_1141 mh_L_211 cW (Nat.le_of_ble_eq_true rfl) (Nat.le_of_ble_eq_true rfl) (by omega) (fun r σ9 g9 => ?_)
    obtain ⟨M1, b1, ge, i8, f9, hr, ho⟩ := g9
    subst ge
    rw [hr]
    refine aw_istore5 (pc := 1144) F dL_law_1144 rfl hk.symm ?_
    refine aw_aload2 (pc := 1146) F dL_law_1146 ?_
    refine aw_aload0 (pc := 1147) F dL_law_1147 ?_
    refine aw_iload4 (pc := 1148) F dL_law_1148 ?_
    refine aw_iconst (pc := 1150) F dL_law_1150 ?_
    refine aw_iadd (pc := 1151) F dL_law_1151 ?_
    refine aw_sld (pc := 1152) F hX dL_law_1152 (by omega) hL ?_
    refine aw_aload0 (pc := 1153) F dL_law_1153 ?_
    refine aw_iload4 (pc := 1154) F dL_law_1154 ?_
    refine aw_iconst (pc := 1156) F dL_law_1156 ?_
    refine aw_iadd (pc := 1157) F dL_law_1157 ?_
    refine aw_sld (pc := 1158) F hX dL_law_1158 (by omega) hL ?_
    refine aw_if_eq (tgt := 1166) (pc := 1159) F dL_law_1159 (by decide) sI_in (fun _ => ?_) (fun c9 => absurd cz c9)
    refine aw_iconst (pc := 1166) F dL_law_1166 ?_
    refine aw_gcallVI (pc := 1167) (as9 := [aI (sI xs (i + 1)), aI 0]) F dL_law_1167 ml_L_214 rfl (by first | decide | (simp only [inB, cnt, rcnt]; omega)) (cR M1 b1 (h9.f9 f9)) (Nat.le_of_ble_eq_true rfl) (Nat.le_of_ble_eq_true rfl) (by omega) (fun v σ9 g9 => ?_)
    obtain ⟨M2, ge, i9, f8, ht, hv⟩ := g9
    subst ge
    refine aw_istore6 (pc := 1170) F dL_law_1170 rfl hk.symm ?_
    refine aw_aload2 (pc := 1172) F dL_law_1172 ?_
    refine aw_pcallV0 (pc := 1173) F dL_law_1173 ml_L_135 rfl (by first | decide | (simp only [inB, cnt, rcnt]; omega)) (ct9_thrown _ _) (Nat.le_of_ble_eq_true rfl) (Nat.le_of_ble_eq_true rfl) (by omega) ?_
    rw [ht]
    refine aw_iload5 (pc := 1176) F dL_law_1176 ?_
    refine aw_icmp_same (tgt := 1183) (pc := 1178) F dL_law_1178 (by decide) ?_
    refine aw_iload5 (pc := 1183) F dL_law_1183 ?_
    refine aw_if_ne (tgt := 1200) (pc := 1185) F dL_law_1185 (by decide) (by unfold inR; omega) (fun c5 => ?_) (fun c5 => ?_)
    · refine aw_goto (tgt := 2535) (pc := 1200) F dL_law_1200 (by decide) ?_
      exact head.fin ⟨_, i8.f8 f8, i9, hp'⟩ (by omega)
    · refine aw_aload3 (pc := 1188) F dL_law_1188 ?_
      refine aw_iconst (pc := 1189) F dL_law_1189 ?_
      refine aw_lald (pc := 1190) F dL_law_1190 rfl (by first | decide | (simp only [inB, cnt, rcnt]; omega)) (by decide) ?_
      rw [show M2 (10, 0, 1, 0) 0 = nrm V from (congrFun (f8 (10, 0, 1, 0) (by decide)) 0).trans (ho c5)]
      refine aw_iload6 (pc := 1191) F dL_law_1191 ?_
      rw [hv c5]
      refine aw_nrm ?_
      refine aw_i2l (pc := 1193) F dL_law_1193 nrm_in ?_
      refine aw_lcmp (pc := 1194) F (by first | exact nrm_in | (unfold inR; decide)) (by first | exact nrm_in | (unfold inR; decide)) dL_law_1194 ?_
      rw [cmp_same (by rfl)]
      refine aw_if_eq (tgt := 1200) (pc := 1195) F dL_law_1195 (by decide) inR0 (fun _ => ?_) (fun c7 => absurd rfl c7)
      refine aw_goto (tgt := 2535) (pc := 1200) F dL_law_1200 (by decide) ?_
      exact head.fin ⟨_, i8.f8 f8, i9, hp'⟩ (by omega)
  · refine aw_iconst (pc := 1135) F dL_law_1135 ?_
    refine aw_goto (tgt := 1140) (pc := 1136) F dL_law_1136 (by decide) ?_
    refine aw_aload3 (pc := 1140) F dL_law_1140 ?_
    obtain ⟨U8, t, V, st', hU, htb, hp', cW, cR⟩ := op_bound M b st (sI xs (i + 1)) 1 sI_in (Or.inr rfl) h8 hp
    refine aw_hcallS (pc := 1141) (as9 := [aR (8, 0, 0, 0), aI (sI xs (i + 1)), aI 1, aR (10, 0, 1, 0)]) F dL_law_1141 mh_L_211 cW (Nat.le_of_ble_eq_true rfl) (Nat.le_of_ble_eq_true rfl) (by omega) (fun r σ9 g9 => ?_)
    obtain ⟨M1, b1, ge, i8, f9, hr, ho⟩ := g9
    subst ge
    rw [hr]
    refine aw_istore5 (pc := 1144) F dL_law_1144 rfl hk.symm ?_
    refine aw_aload2 (pc := 1146) F dL_law_1146 ?_
    refine aw_aload0 (pc := 1147) F dL_law_1147 ?_
    refine aw_iload4 (pc := 1148) F dL_law_1148 ?_
    refine aw_iconst (pc := 1150) F dL_law_1150 ?_
    refine aw_iadd (pc := 1151) F dL_law_1151 ?_
    refine aw_sld (pc := 1152) F hX dL_law_1152 (by omega) hL ?_
    refine aw_aload0 (pc := 1153) F dL_law_1153 ?_
    refine aw_iload4 (pc := 1154) F dL_law_1154 ?_
    refine aw_iconst (pc := 1156) F dL_law_1156 ?_
    refine aw_iadd (pc := 1157) F dL_law_1157 ?_
    refine aw_sld (pc := 1158) F hX dL_law_1158 (by omega) hL ?_
    refine aw_if_eq (tgt := 1166) (pc := 1159) F dL_law_1159 (by decide) sI_in (fun c9 => absurd c9 cz) (fun _ => ?_)
    refine aw_iconst (pc := 1162) F dL_law_1162 ?_
    refine aw_goto (tgt := 1167) (pc := 1163) F dL_law_1163 (by decide) ?_
    refine aw_gcallVI (pc := 1167) (as9 := [aI (sI xs (i + 1)), aI 1]) F dL_law_1167 ml_L_214 rfl (by first | decide | (simp only [inB, cnt, rcnt]; omega)) (cR M1 b1 (h9.f9 f9)) (Nat.le_of_ble_eq_true rfl) (Nat.le_of_ble_eq_true rfl) (by omega) (fun v σ9 g9 => ?_)
    obtain ⟨M2, ge, i9, f8, ht, hv⟩ := g9
    subst ge
    refine aw_istore6 (pc := 1170) F dL_law_1170 rfl hk.symm ?_
    refine aw_aload2 (pc := 1172) F dL_law_1172 ?_
    refine aw_pcallV0 (pc := 1173) F dL_law_1173 ml_L_135 rfl (by first | decide | (simp only [inB, cnt, rcnt]; omega)) (ct9_thrown _ _) (Nat.le_of_ble_eq_true rfl) (Nat.le_of_ble_eq_true rfl) (by omega) ?_
    rw [ht]
    refine aw_iload5 (pc := 1176) F dL_law_1176 ?_
    refine aw_icmp_same (tgt := 1183) (pc := 1178) F dL_law_1178 (by decide) ?_
    refine aw_iload5 (pc := 1183) F dL_law_1183 ?_
    refine aw_if_ne (tgt := 1200) (pc := 1185) F dL_law_1185 (by decide) (by unfold inR; omega) (fun c5 => ?_) (fun c5 => ?_)
    · refine aw_goto (tgt := 2535) (pc := 1200) F dL_law_1200 (by decide) ?_
      exact head.fin ⟨_, i8.f8 f8, i9, hp'⟩ (by omega)
    · refine aw_aload3 (pc := 1188) F dL_law_1188 ?_
      refine aw_iconst (pc := 1189) F dL_law_1189 ?_
      refine aw_lald (pc := 1190) F dL_law_1190 rfl (by first | decide | (simp only [inB, cnt, rcnt]; omega)) (by decide) ?_
      rw [show M2 (10, 0, 1, 0) 0 = nrm V from (congrFun (f8 (10, 0, 1, 0) (by decide)) 0).trans (ho c5)]
      refine aw_iload6 (pc := 1191) F dL_law_1191 ?_
      rw [hv c5]
      refine aw_nrm ?_
      refine aw_i2l (pc := 1193) F dL_law_1193 nrm_in ?_
      refine aw_lcmp (pc := 1194) F (by first | exact nrm_in | (unfold inR; decide)) (by first | exact nrm_in | (unfold inR; decide)) dL_law_1194 ?_
      rw [cmp_same (by rfl)]
      refine aw_if_eq (tgt := 1200) (pc := 1195) F dL_law_1195 (by decide) inR0 (fun _ => ?_) (fun c7 => absurd rfl c7)
      refine aw_goto (tgt := 2535) (pc := 1200) F dL_law_1200 (by decide) ?_
      exact head.fin ⟨_, i8.f8 f8, i9, hp'⟩ (by omega)
theorem lc_22 {X : Cx} {K : Kx} {Ln : Nat} {xs : Nat → Int32} {U9 : Nat} (F : Fx X K cL_law RL (some .boolean) 60 U9 false) (hk : K.2.2.2.1 = 9) (hX : LX X K Ln xs) (hL : Ln ≤ 3072) (i : Int) (hi : 0 ≤ i ∧ i + 6 ≤ Ln) (M : Id4 → Int → Int) (b : Bool) (hI : INV M) (u : Nat) (hu : u + 8 ≤ U9) {Q : State → Prop} (head : HDL X K i u Q) : AW X K 1203 (lvH i) [] (M, R0 b) u Q := by
  obtain ⟨st, h8, h9, hp⟩ := hI
  refine aw_aload1 (pc := 1203) F dL_law_1203 ?_
  obtain ⟨V, st', hp', c8, c9⟩ := op_cycles M b st   h8 hp
  refine aw_gcallVI (pc := 1204) (as9 := []) F dL_law_1204 ml_L_215 rfl (by first | decide | (simp only [inB, cnt, rcnt]; omega)) c8 (Nat.le_of_ble_eq_true rfl) (Nat.le_of_ble_eq_true rfl) (by omega) (fun v σ9 g9 => ?_)
  obtain ⟨M1, ge, i8, f9, hv⟩ := g9
  subst ge
  rw [hv]
  refine aw_aload2 (pc := 1207) F dL_law_1207 ?_
  refine aw_gcallVI (pc := 1208) (as9 := []) F dL_law_1208 ml_L_218 rfl (by first | decide | (simp only [inB, cnt, rcnt]; omega)) (c9 M1 b (h9.f9 f9)) (Nat.le_of_ble_eq_true rfl) (Nat.le_of_ble_eq_true rfl) (by omega) (fun v σ9 g9 => ?_)
  obtain ⟨M2, ge, i9, f8, -, hv2⟩ := g9
  subst ge
  rw [hv2 rfl]
  refine aw_icmp_same (tgt := 2535) (pc := 1211) F dL_law_1211 (by decide) ?_
  exact head.fin ⟨_, i8.f8 f8, i9, hp'⟩ (by omega)
theorem lc_23 {X : Cx} {K : Kx} {Ln : Nat} {xs : Nat → Int32} {U9 : Nat} (F : Fx X K cL_law RL (some .boolean) 60 U9 false) (hk : K.2.2.2.1 = 9) (hX : LX X K Ln xs) (hL : Ln ≤ 3072) (i : Int) (hi : 0 ≤ i ∧ i + 6 ≤ Ln) (M : Id4 → Int → Int) (b : Bool) (hI : INV M) (u : Nat) (hu : u + 8 ≤ U9) {Q : State → Prop} (head : HDL X K i u Q) : AW X K 1216 (lvH i) [] (M, R0 b) u Q := by
  obtain ⟨st, h8, h9, hp⟩ := hI
  refine aw_aload1 (pc := 1216) F dL_law_1216 ?_
  refine aw_aload0 (pc := 1217) F dL_law_1217 ?_
  refine aw_iload4 (pc := 1218) F dL_law_1218 ?_
  refine aw_iconst (pc := 1220) F dL_law_1220 ?_
  refine aw_iadd (pc := 1221) F dL_law_1221 ?_
  refine aw_sld (pc := 1222) F hX dL_law_1222 (by omega) hL ?_
  refine aw_aload3 (pc := 1223) F dL_law_1223 ?_
  obtain ⟨U8, t, V, st', hU, htb, hp', cW, cR⟩ := op_cycleLength M b st (sI xs (i + 1)) sI_in h8 hp
  refine aw_hcallS (pc := 1224) (as9 := [aR (8, 0, 0, 0), aI (sI xs (i + 1)), aR (10, 0, 1, 0)]) F dL_law_1224 mh_L_219 cW (Nat.le_of_ble_eq_true rfl) (Nat.le_of_ble_eq_true rfl) (by omega) (fun r σ9 g9 => ?_)
  obtain ⟨M1, b1, ge, i8, f9, hr, ho⟩ := g9
  subst ge
  rw [hr]
  refine aw_istore5 (pc := 1227) F dL_law_1227 rfl hk.symm ?_
  refine aw_aload2 (pc := 1229) F dL_law_1229 ?_
  refine aw_aload0 (pc := 1230) F dL_law_1230 ?_
  refine aw_iload4 (pc := 1231) F dL_law_1231 ?_
  refine aw_iconst (pc := 1233) F dL_law_1233 ?_
  refine aw_iadd (pc := 1234) F dL_law_1234 ?_
  refine aw_sld (pc := 1235) F hX dL_law_1235 (by omega) hL ?_
  refine aw_gcallVI (pc := 1236) (as9 := [aI (sI xs (i + 1))]) F dL_law_1236 ml_L_221 rfl (by first | decide | (simp only [inB, cnt, rcnt]; omega)) (cR M1 b1 (h9.f9 f9)) (Nat.le_of_ble_eq_true rfl) (Nat.le_of_ble_eq_true rfl) (by omega) (fun v σ9 g9 => ?_)
  obtain ⟨M2, ge, i9, f8, ht, hv⟩ := g9
  subst ge
  refine aw_istore6 (pc := 1239) F dL_law_1239 rfl hk.symm ?_
  refine aw_aload2 (pc := 1241) F dL_law_1241 ?_
  refine aw_pcallV0 (pc := 1242) F dL_law_1242 ml_L_135 rfl (by first | decide | (simp only [inB, cnt, rcnt]; omega)) (ct9_thrown _ _) (Nat.le_of_ble_eq_true rfl) (Nat.le_of_ble_eq_true rfl) (by omega) ?_
  rw [ht]
  refine aw_iload5 (pc := 1245) F dL_law_1245 ?_
  refine aw_icmp_same (tgt := 1252) (pc := 1247) F dL_law_1247 (by decide) ?_
  refine aw_iload5 (pc := 1252) F dL_law_1252 ?_
  refine aw_if_ne (tgt := 1269) (pc := 1254) F dL_law_1254 (by decide) (by unfold inR; omega) (fun c5 => ?_) (fun c5 => ?_)
  · refine aw_goto (tgt := 2535) (pc := 1269) F dL_law_1269 (by decide) ?_
    exact head.fin ⟨_, i8.f8 f8, i9, hp'⟩ (by omega)
  · refine aw_aload3 (pc := 1257) F dL_law_1257 ?_
    refine aw_iconst (pc := 1258) F dL_law_1258 ?_
    refine aw_lald (pc := 1259) F dL_law_1259 rfl (by first | decide | (simp only [inB, cnt, rcnt]; omega)) (by decide) ?_
    rw [show M2 (10, 0, 1, 0) 0 = nrm V from (congrFun (f8 (10, 0, 1, 0) (by decide)) 0).trans (ho c5)]
    refine aw_iload6 (pc := 1260) F dL_law_1260 ?_
    rw [hv c5]
    refine aw_nrm ?_
    refine aw_i2l (pc := 1262) F dL_law_1262 nrm_in ?_
    refine aw_lcmp (pc := 1263) F (by first | exact nrm_in | (unfold inR; decide)) (by first | exact nrm_in | (unfold inR; decide)) dL_law_1263 ?_
    rw [cmp_same (by rfl)]
    refine aw_if_eq (tgt := 1269) (pc := 1264) F dL_law_1264 (by decide) inR0 (fun _ => ?_) (fun c7 => absurd rfl c7)
    refine aw_goto (tgt := 2535) (pc := 1269) F dL_law_1269 (by decide) ?_
    exact head.fin ⟨_, i8.f8 f8, i9, hp'⟩ (by omega)
