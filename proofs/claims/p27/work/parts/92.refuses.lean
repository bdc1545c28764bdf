/-! ===== the law: refuses (by wip/p27/gen_ref.py) ===== -/
/-- the row of the law: 1 where there is a file -/
def Lv (ρ : gSt) (m : Nat → Int32) : Prop := ∀ f, f < 40 → (m f = 1 ∧ lvf ρ (nI f) = true) ∨ (m f = 0 ∧ lvf ρ (nI f) = false)
theorem lt_m1001 {k : Nat} (hk : k < 2 ^ 30) : (-1001 - nI k : Int32) < -1000 := by
  have e : (-1001 : Int32).toInt = -1001 := by decide
  have e2 := nI_toInt (n := k) (by omega)
  rw [Int32.lt_iff_toInt_lt, Jvm.Kit.i32_sub (by rw [e, e2]; omega) (by rw [e, e2]; omega), e, e2, show (-1000 : Int32).toInt = -1000 by decide]
  omega
set_option maxRecDepth 100000 in
set_option maxHeartbeats 4000000 in
theorem c_refuses (l : Launch) (hfl : l.stackTraces = false) (M : gMT) (σ : gS) (φ : gS) (a0 mb : Nat) (ρ : gSt) (m : Nat → Int32) (n x : Nat) (hx : x ≤ 9972) (hn : n ≤ 600) (hst : St M φ a0 ρ σ) (hI : Iv n ρ) (hm : φ mb = some (aI M 2 40 m)) (hv : Lv ρ m) : Con l M yL_refuses (.code yL_refuses cL_refuses 9 (Option.some FieldType.boolean)) 14 950 15000 [.ref a0, .ref mb, .int (nI x)] σ (rI (sQ M φ a0 1 ρ)) (nX) := by
  refine g_con hfl (by decide) (lv := [(0, .ref a0), (1, .ref mb), (2, .int (nI x))]) rfl rfl (Nat.le_of_ble_eq_true rfl) (fun X hX hC hR htb => ?_)
  have hw := hI.w
  have w2 := hw.1.2.1
  have w3 := hw.1.2.2.1
  have w4 := hw.1.2.2.2.1
  have main : ∀ (lt us : Int32), inR lt (ρ.1 10 3) = false → inR us 6 = false → ∀ (σ : gS), St M φ a0 ρ σ → G X M 9 (gQ X M 950 15000 (rI (sQ M φ a0 1 ρ)) nX) (0 + 0) (0 + 0) σ 52 [(5, .int us), (4, .int lt), (3, .int (nI (ρ.1 10 3))), (0, .ref a0), (1, .ref mb), (2, .int (nI x))] [] := by
    intro lt us hlt hus σ hst
    have h797 : ∀ (kx nx : Nat) (σ : gS), kx ≤ 950 → nx ≤ 15000 → St M φ a0 ρ σ → G X M 9 (gQ X M 950 15000 (rI (sQ M φ a0 1 ρ)) nX) kx nx σ 797 [(7, .int (nI (x % 40))), (6, .int 1), (5, .int us), (4, .int lt), (3, .int (nI (ρ.1 10 3))), (0, .ref a0), (1, .ref mb), (2, .int (nI x))] [] := by
      intro kx nx σ hk hs hst
      refine g_iload (q := 799) (i := 6) hC dL_refuses_797 rfl rfl ?_
      exact g_zret hC hR (rfl) dL_refuses_799 (by omega) (by omega) (⟨_, rfl, rfl, hst⟩)
    have live : lvf ρ (nI (x % 40)) = true → ∀ (kx nx : Nat) (σ : gS), kx ≤ 832 → nx ≤ 12616 → St M φ a0 ρ σ → G X M 9 (gQ X M 950 15000 (rI (sQ M φ a0 1 ρ)) nX) kx nx σ 638 [(7, .int (nI (x % 40))), (6, .int 1), (5, .int us), (4, .int lt), (3, .int (nI (ρ.1 10 3))), (0, .ref a0), (1, .ref mb), (2, .int (nI x))] [] := by
      intro hl kx nx σ hk hs hst
      have h790 : ∀ (r : Int32) (kx nx : Nat) (σ : gS), kx ≤ 950 → nx ≤ 15000 → St M φ a0 ρ σ → G X M 9 (gQ X M 950 15000 (rI (sQ M φ a0 1 ρ)) nX) kx nx σ 790 ((8, .int r) :: [(7, .int (nI (x % 40))), (6, .int 1), (5, .int us), (4, .int lt), (3, .int (nI (ρ.1 10 3))), (0, .ref a0), (1, .ref mb), (2, .int (nI x))]) [] := by
        intro r kx nx σ hk hs hst
        refine g_iconst (q := 791) (v := 1) hC dL_refuses_790 rfl rfl ?_
        refine g_goto (tgt := 795) hC dL_refuses_791 (by decide) ?_
        refine g_istore (q := 797) (i := 6) hC dL_refuses_795 (by decide) rfl ?_
        refine g_sub (lv0 := [(7, .int (nI (x % 40))), (6, .int 1), (5, .int us), (4, .int lt), (3, .int (nI (ρ.1 10 3))), (0, .ref a0), (1, .ref mb), (2, .int (nI x))]) ⟨rfl, rfl, rfl, rfl, rfl, rfl, rfl, rfl, trivial⟩ ?_
        exact h797 kx nx σ hk hs hst
      obtain ⟨g1, g2, g3⟩ := wr_0 hI hn (f := x % 40) (by omega) hl
      obtain ⟨r, r1, r2, r3⟩ := rm_bar hI hn (f := x % 40) (by omega) hl
      refine g_iload (q := 640) (i := 6) hC dL_refuses_638 rfl rfl ?_
      refine g_if_eq (tgt := 797) (q := 643) hC dL_refuses_640 (by decide) rfl (fun c9 => absurd c9 (by decide)) (fun _ => ?_)
      refine g_aload_n (q := 644) (i := 0) hC dL_refuses_643 rfl rfl rfl ?_
      refine g_iload (q := 646) (i := 7) hC dL_refuses_644 rfl rfl ?_
      refine g_sipush (q := 649) (v := nI 1001) hC dL_refuses_646 rfl rfl ?_
      refine g_iload_n (q := 650) (i := 2) hC dL_refuses_649 rfl rfl rfl ?_
      refine g_iadd (q := 651) (v := (nI (1001 + x))) hC dL_refuses_650 (nI_add _ _) rfl ?_
      refine g_ci (q := 654) (g_runSH hC ks_L_106 md_L_writes (con_A (s_writes hC.fl (nI (x % 40)) (nI (1001 + x)) hst hw) (rf_wrA hl (Or.inr (show nI 1000 < nI (1001 + x) from nI_lt (by omega) (by omega))))) dL_refuses_651 (by decide) (by decide) (by omega) (by omega) rfl rfl (Nat.le_of_ble_eq_true rfl)) rfl (fun r σ ⟨e9, hst⟩ => ?_) (fun _ _ h9 => False.elim h9)
      subst e9
      refine g_ldc (q := 656) hC kk_L_15 dL_refuses_654 rfl ?_
      refine g_icmp_ne (tgt := 730) (q := 659) hC dL_refuses_656 (by decide) rfl (fun c9 => absurd rfl c9) (fun _ => ?_)
      refine g_aload_n (q := 660) (i := 0) hC dL_refuses_659 rfl rfl rfl ?_
      refine g_iload (q := 662) (i := 7) hC dL_refuses_660 rfl rfl ?_
      refine g_sipush (q := 665) (v := (-1001)) hC dL_refuses_662 rfl rfl ?_
      refine g_iload_n (q := 666) (i := 2) hC dL_refuses_665 rfl rfl rfl ?_
      refine g_isub (q := 667) hC dL_refuses_666 rfl rfl ?_
      refine g_ci (q := 670) (g_runSH hC ks_L_106 md_L_writes (con_A (s_writes hC.fl (nI (x % 40)) (-1001 - nI x) hst hw) (rf_wrA hl (Or.inl (lt_m1001 (by omega))))) dL_refuses_667 (by decide) (by decide) (by omega) (by omega) rfl rfl (Nat.le_of_ble_eq_true rfl)) rfl (fun r σ ⟨e9, hst⟩ => ?_) (fun _ _ h9 => False.elim h9)
      subst e9
      refine g_ldc (q := 672) hC kk_L_15 dL_refuses_670 rfl ?_
      refine g_icmp_ne (tgt := 730) (q := 675) hC dL_refuses_672 (by decide) rfl (fun c9 => absurd rfl c9) (fun _ => ?_)
      refine g_aload_n (q := 676) (i := 0) hC dL_refuses_675 rfl rfl rfl ?_
      refine g_iload (q := 678) (i := 7) hC dL_refuses_676 rfl rfl ?_
      refine g_iconst (q := 679) (v := nI 0) hC dL_refuses_678 rfl rfl ?_
      refine g_ci (q := 682) (g_runSH hC ks_L_115 md_L_reserves (con_A (s_reserves hC.fl (nI (x % 40)) (nI 0) hst hw) (rf_rsA hl (Or.inl (by decide)))) dL_refuses_679 (by decide) (by decide) (by omega) (by omega) rfl rfl (Nat.le_of_ble_eq_true rfl)) rfl (fun r σ ⟨e9, hst⟩ => ?_) (fun _ _ h9 => False.elim h9)
      subst e9
      refine g_ldc (q := 684) hC kk_L_15 dL_refuses_682 rfl ?_
      refine g_icmp_ne (tgt := 730) (q := 687) hC dL_refuses_684 (by decide) rfl (fun c9 => absurd rfl c9) (fun _ => ?_)
      refine g_aload_n (q := 688) (i := 0) hC dL_refuses_687 rfl rfl rfl ?_
      refine g_iload (q := 690) (i := 7) hC dL_refuses_688 rfl rfl ?_
      refine g_sipush (q := 693) (v := nI 1001) hC dL_refuses_690 rfl rfl ?_
      refine g_iload_n (q := 694) (i := 2) hC dL_refuses_693 rfl rfl rfl ?_
      refine g_iadd (q := 695) (v := (nI (1001 + x))) hC dL_refuses_694 (nI_add _ _) rfl ?_
      refine g_ci (q := 698) (g_runSH hC ks_L_115 md_L_reserves (con_A (s_reserves hC.fl (nI (x % 40)) (nI (1001 + x)) hst hw) (rf_rsA hl (Or.inr (show nI 1000 < nI (1001 + x) from nI_lt (by omega) (by omega))))) dL_refuses_695 (by decide) (by decide) (by omega) (by omega) rfl rfl (Nat.le_of_ble_eq_true rfl)) rfl (fun r σ ⟨e9, hst⟩ => ?_) (fun _ _ h9 => False.elim h9)
      subst e9
      refine g_ldc (q := 700) hC kk_L_15 dL_refuses_698 rfl ?_
      refine g_icmp_ne (tgt := 730) (q := 703) hC dL_refuses_700 (by decide) rfl (fun c9 => absurd rfl c9) (fun _ => ?_)
      refine g_aload_n (q := 704) (i := 0) hC dL_refuses_703 rfl rfl rfl ?_
      refine g_iload (q := 706) (i := 7) hC dL_refuses_704 rfl rfl ?_
      refine g_iload (q := 708) (i := 4) hC dL_refuses_706 rfl rfl ?_
      refine g_ci (q := 711) (g_runSH hC ks_L_112 md_L_movesFile (con_I (s_movesFile hC.fl (nI (x % 40)) lt hst hw) (rf_moP hlt)) dL_refuses_708 (by decide) (by decide) (by omega) (by omega) rfl rfl (Nat.le_of_ble_eq_true rfl)) rfl (fun r σ ⟨e9, hst⟩ => ?_) (fun _ _ h9 => False.elim h9)
      subst e9
      refine g_ldc (q := 713) hC kk_L_32 dL_refuses_711 rfl ?_
      refine g_icmp_ne (tgt := 730) (q := 716) hC dL_refuses_713 (by decide) rfl (fun c9 => absurd rfl c9) (fun _ => ?_)
      refine g_aload_n (q := 717) (i := 0) hC dL_refuses_716 rfl rfl rfl ?_
      refine g_iload (q := 719) (i := 7) hC dL_refuses_717 rfl rfl ?_
      refine g_iconst (q := 720) (v := nI 0) hC dL_refuses_719 rfl rfl ?_
      refine g_ci (q := 723) (g_runSH hC ks_L_106 md_L_writes (con_v (s_writes hC.fl (nI (x % 40)) (nI 0) hst hw) g1) dL_refuses_720 (by decide) (by decide) (by omega) (by omega) rfl rfl (Nat.le_of_ble_eq_true rfl)) rfl (fun r σ ⟨e9, hst⟩ => ?_) (fun _ _ h9 => False.elim h9)
      subst e9
      refine g_if_lt (tgt := 730) (q := 726) hC dL_refuses_723 (by decide) rfl (fun c9 => absurd c9 (by rw [Int32.lt_iff_toInt_lt, show (0 : Int32).toInt = 0 by decide]; omega)) (fun _ => ?_)
      refine g_iconst (q := 727) (v := 1) hC dL_refuses_726 rfl rfl ?_
      refine g_goto (tgt := 731) hC dL_refuses_727 (by decide) ?_
      refine g_istore (q := 733) (i := 6) hC dL_refuses_731 (by decide) rfl ?_
      refine g_aload_n (q := 734) (i := 0) hC dL_refuses_733 rfl rfl rfl ?_
      refine g_iload (q := 736) (i := 7) hC dL_refuses_734 rfl rfl ?_
      refine g_ci (q := 739) (g_runSH hC ks_L_139 md_L_room (con_v (s_room hC.fl (nI (x % 40)) hst hw) r1) dL_refuses_736 (by decide) (by decide) (by omega) (by omega) rfl rfl (Nat.le_of_ble_eq_true rfl)) rfl (fun r σ ⟨e9, hst⟩ => ?_) (fun _ _ h9 => False.elim h9)
      subst e9
      refine g_istore (q := 741) (i := 8) hC dL_refuses_739 (by decide) rfl ?_
      refine g_iload (q := 743) (i := 6) hC dL_refuses_741 rfl rfl ?_
      refine g_if_eq (tgt := 794) (q := 746) hC dL_refuses_743 (by decide) rfl (fun c9 => absurd c9 (by decide)) (fun _ => ?_)
      refine g_iload (q := 748) (i := 8) hC dL_refuses_746 rfl rfl ?_
      refine g_iconst (q := 749) (v := (-1)) hC dL_refuses_748 rfl rfl ?_
      refine g_icmp_lt (tgt := 794) (q := 752) hC dL_refuses_749 (by decide) rfl (fun c9 => absurd c9 (by rw [Int32.lt_iff_toInt_lt, show (-1 : Int32).toInt = -1 by decide]; rcases r2 with r2 | r2; rw [r2]; decide; omega)) (fun _ => ?_)
      refine g_iload (q := 754) (i := 8) hC dL_refuses_752 rfl rfl ?_
      refine g_sub (lv0 := (8, .int r) :: [(7, .int (nI (x % 40))), (6, .int 1), (5, .int us), (4, .int lt), (3, .int (nI (ρ.1 10 3))), (0, .ref a0), (1, .ref mb), (2, .int (nI x))]) ⟨rfl, rfl, rfl, rfl, rfl, rfl, rfl, rfl, rfl, trivial⟩ ?_
      refine g_if_lt (tgt := 790) (q := 757) hC dL_refuses_754 (by decide) rfl (fun _ => h790 r _ _ _ (by omega) (by omega) hst) (fun c0 => ?_)
      refine g_iload (q := 759) (i := 8) hC dL_refuses_757 rfl rfl ?_
      refine g_sipush (q := 762) (v := nI 999) hC dL_refuses_759 rfl rfl ?_
      refine g_icmp_gt (tgt := 790) (q := 765) hC dL_refuses_762 (by decide) rfl (fun _ => h790 r _ _ _ (by omega) (by omega) hst) (fun c1 => ?_)
      rw [Int32.lt_iff_toInt_lt, show (0 : Int32).toInt = 0 by decide] at c0
      rw [Int32.lt_iff_toInt_lt, nI_toInt (n := 999) (by decide)] at c1
      obtain ⟨w, w5, w6⟩ := r3 (by omega) (by omega)
      refine g_aload_n (q := 766) (i := 0) hC dL_refuses_765 rfl rfl rfl ?_
      refine g_iload (q := 768) (i := 7) hC dL_refuses_766 rfl rfl ?_
      refine g_iload (q := 770) (i := 8) hC dL_refuses_768 rfl rfl ?_
      refine g_iconst (q := 771) (v := nI 1) hC dL_refuses_770 rfl rfl ?_
      refine g_iadd (q := 772) (v := r + 1) hC dL_refuses_771 rfl rfl ?_
      refine g_ci (q := 775) (g_runSH hC ks_L_106 md_L_writes (con_v (s_writes hC.fl (nI (x % 40)) (r + 1) hst hw) w5) dL_refuses_772 (by decide) (by decide) (by omega) (by omega) rfl rfl (Nat.le_of_ble_eq_true rfl)) rfl (fun r σ ⟨e9, hst⟩ => ?_) (fun _ _ h9 => False.elim h9)
      subst e9
      refine g_iconst (q := 776) (v := (-1)) hC dL_refuses_775 rfl rfl ?_
      refine g_icmp_ge (tgt := 794) (q := 779) hC dL_refuses_776 (by decide) rfl (fun c9 => absurd c9 (by rw [Int32.le_iff_toInt_le, show (-1 : Int32).toInt = -1 by decide]; omega)) (fun _ => ?_)
      refine g_aload_n (q := 780) (i := 0) hC dL_refuses_779 rfl rfl rfl ?_
      refine g_iload (q := 782) (i := 7) hC dL_refuses_780 rfl rfl ?_
      refine g_ci (q := 785) (g_runSH hC ks_L_139 md_L_room (con_v (s_room hC.fl (nI (x % 40)) hst hw) r1) dL_refuses_782 (by decide) (by decide) (by omega) (by omega) rfl rfl (Nat.le_of_ble_eq_true rfl)) rfl (fun r σ ⟨e9, hst⟩ => ?_) (fun _ _ h9 => False.elim h9)
      subst e9
      refine g_iload (q := 787) (i := 8) hC dL_refuses_785 rfl rfl ?_
      refine g_icmp_ne (tgt := 794) (q := 790) hC dL_refuses_787 (by decide) rfl (fun c9 => absurd rfl c9) (fun _ => ?_)
      exact h790 r _ _ _ (by omega) (by omega) hst
    have dead : lvf ρ (nI (x % 40)) = false → ∀ (kx nx : Nat) (σ : gS), kx ≤ 832 → nx ≤ 12616 → St M φ a0 ρ σ → G X M 9 (gQ X M 950 15000 (rI (sQ M φ a0 1 ρ)) nX) kx nx σ 570 [(7, .int (nI (x % 40))), (6, .int 1), (5, .int us), (4, .int lt), (3, .int (nI (ρ.1 10 3))), (0, .ref a0), (1, .ref mb), (2, .int (nI x))] [] := by
      intro hl kx nx σ hk hs hst
      refine g_aload_n (q := 571) (i := 0) hC dL_refuses_570 rfl rfl rfl ?_
      refine g_iload (q := 573) (i := 7) hC dL_refuses_571 rfl rfl ?_
      refine g_iconst (q := 574) (v := nI 1) hC dL_refuses_573 rfl rfl ?_
      refine g_ci (q := 577) (g_runSH hC ks_L_106 md_L_writes (con_I (s_writes hC.fl (nI (x % 40)) (nI 1) hst hw) (rf_wr hl)) dL_refuses_574 (by decide) (by decide) (by omega) (by omega) rfl rfl (Nat.le_of_ble_eq_true rfl)) rfl (fun r σ ⟨e9, hst⟩ => ?_) (fun _ _ h9 => False.elim h9)
      subst e9
      refine g_ldc (q := 579) hC kk_L_32 dL_refuses_577 rfl ?_
      refine g_icmp_ne (tgt := 632) (q := 582) hC dL_refuses_579 (by decide) rfl (fun c9 => absurd rfl c9) (fun _ => ?_)
      refine g_aload_n (q := 583) (i := 0) hC dL_refuses_582 rfl rfl rfl ?_
      refine g_iload (q := 585) (i := 7) hC dL_refuses_583 rfl rfl ?_
      refine g_ci (q := 588) (g_runSH hC ks_L_109 md_L_deletes (con_I (s_deletes hC.fl (nI (x % 40)) hst hw) (rf_dl hl)) dL_refuses_585 (by decide) (by decide) (by omega) (by omega) rfl rfl (Nat.le_of_ble_eq_true rfl)) rfl (fun r σ ⟨e9, hst⟩ => ?_) (fun _ _ h9 => False.elim h9)
      subst e9
      refine g_ldc (q := 590) hC kk_L_32 dL_refuses_588 rfl ?_
      refine g_icmp_ne (tgt := 632) (q := 593) hC dL_refuses_590 (by decide) rfl (fun c9 => absurd rfl c9) (fun _ => ?_)
      refine g_aload_n (q := 594) (i := 0) hC dL_refuses_593 rfl rfl rfl ?_
      refine g_iload (q := 596) (i := 7) hC dL_refuses_594 rfl rfl ?_
      refine g_iconst (q := 597) (v := nI 0) hC dL_refuses_596 rfl rfl ?_
      refine g_ci (q := 600) (g_runSH hC ks_L_112 md_L_movesFile (con_I (s_movesFile hC.fl (nI (x % 40)) (nI 0) hst hw) (rf_mo hl)) dL_refuses_597 (by decide) (by decide) (by omega) (by omega) rfl rfl (Nat.le_of_ble_eq_true rfl)) rfl (fun r σ ⟨e9, hst⟩ => ?_) (fun _ _ h9 => False.elim h9)
      subst e9
      refine g_ldc (q := 602) hC kk_L_32 dL_refuses_600 rfl ?_
      refine g_icmp_ne (tgt := 632) (q := 605) hC dL_refuses_602 (by decide) rfl (fun c9 => absurd rfl c9) (fun _ => ?_)
      refine g_aload_n (q := 606) (i := 0) hC dL_refuses_605 rfl rfl rfl ?_
      refine g_iload (q := 608) (i := 7) hC dL_refuses_606 rfl rfl ?_
      refine g_iconst (q := 609) (v := nI 1) hC dL_refuses_608 rfl rfl ?_
      refine g_ci (q := 612) (g_runSH hC ks_L_115 md_L_reserves (con_I (s_reserves hC.fl (nI (x % 40)) (nI 1) hst hw) (rf_rs hl)) dL_refuses_609 (by decide) (by decide) (by omega) (by omega) rfl rfl (Nat.le_of_ble_eq_true rfl)) rfl (fun r σ ⟨e9, hst⟩ => ?_) (fun _ _ h9 => False.elim h9)
      subst e9
      refine g_ldc (q := 614) hC kk_L_32 dL_refuses_612 rfl ?_
      refine g_icmp_ne (tgt := 632) (q := 617) hC dL_refuses_614 (by decide) rfl (fun c9 => absurd rfl c9) (fun _ => ?_)
      refine g_aload_n (q := 618) (i := 0) hC dL_refuses_617 rfl rfl rfl ?_
      refine g_iload (q := 620) (i := 7) hC dL_refuses_618 rfl rfl ?_
      refine g_ci (q := 623) (g_runSH hC ks_L_139 md_L_room (con_I (s_room hC.fl (nI (x % 40)) hst hw) (rf_rm hl)) dL_refuses_620 (by decide) (by decide) (by omega) (by omega) rfl rfl (Nat.le_of_ble_eq_true rfl)) rfl (fun r σ ⟨e9, hst⟩ => ?_) (fun _ _ h9 => False.elim h9)
      subst e9
      refine g_ldc (q := 625) hC kk_L_32 dL_refuses_623 rfl ?_
      refine g_icmp_ne (tgt := 632) (q := 628) hC dL_refuses_625 (by decide) rfl (fun c9 => absurd rfl c9) (fun _ => ?_)
      refine g_iconst (q := 629) (v := 1) hC dL_refuses_628 rfl rfl ?_
      refine g_goto (tgt := 633) hC dL_refuses_629 (by decide) ?_
      refine g_istore (q := 635) (i := 6) hC dL_refuses_633 (by decide) rfl ?_
      refine g_goto (tgt := 797) hC dL_refuses_635 (by decide) ?_
      refine g_sub (lv0 := [(7, .int (nI (x % 40))), (6, .int 1), (5, .int us), (4, .int lt), (3, .int (nI (ρ.1 10 3))), (0, .ref a0), (1, .ref mb), (2, .int (nI x))]) ⟨rfl, rfl, rfl, rfl, rfl, rfl, rfl, rfl, trivial⟩ ?_
      exact h797 _ _ _ (by omega) (by omega) hst
    have h545 : ∀ (kx nx : Nat) (σ : gS), kx ≤ 832 → nx ≤ 12616 → St M φ a0 ρ σ → G X M 9 (gQ X M 950 15000 (rI (sQ M φ a0 1 ρ)) nX) kx nx σ 545 [(6, .int 1), (5, .int us), (4, .int lt), (3, .int (nI (ρ.1 10 3))), (0, .ref a0), (1, .ref mb), (2, .int (nI x))] [] := by
      intro kx nx σ hk hs hst
      refine g_iconst (q := 546) (v := 1) hC dL_refuses_545 rfl rfl ?_
      refine g_goto (tgt := 550) hC dL_refuses_546 (by decide) ?_
      refine g_istore (q := 552) (i := 6) hC dL_refuses_550 (by decide) rfl ?_
      refine g_iload_n (q := 553) (i := 2) hC dL_refuses_552 rfl rfl rfl ?_
      refine g_bipush (q := 555) (v := nI 40) hC dL_refuses_553 rfl rfl ?_
      refine g_irem (q := 556) (v := (nI (x % 40))) hC dL_refuses_555 (by decide) (pk_rem (by omega) (by omega) (by omega)) rfl ?_
      refine g_istore (q := 558) (i := 7) hC dL_refuses_556 (by decide) rfl ?_
      refine g_iload (q := 560) (i := 6) hC dL_refuses_558 rfl rfl ?_
      refine g_if_eq (tgt := 638) (q := 563) hC dL_refuses_560 (by decide) rfl (fun c9 => absurd c9 (by decide)) (fun _ => ?_)
      refine g_sub (lv0 := [(7, .int (nI (x % 40))), (6, .int 1), (5, .int us), (4, .int lt), (3, .int (nI (ρ.1 10 3))), (0, .ref a0), (1, .ref mb), (2, .int (nI x))]) ⟨rfl, rfl, rfl, rfl, rfl, rfl, rfl, rfl, trivial⟩ ?_
      refine g_aload_n (q := 564) (i := 1) hC dL_refuses_563 rfl rfl rfl ?_
      refine g_iload (q := 566) (i := 7) hC dL_refuses_564 rfl rfl ?_
      refine g_iald (q := 567) (v := m (x % 40)) hC dL_refuses_566 (hst.oth hm) (vp_in_nI (by omega) (by omega)) (congrArg m (nI_clamp (by omega))) rfl ?_
      rcases hv (x % 40) (by omega) with ⟨m1, m2⟩ | ⟨m1, m2⟩
      · rw [m1]
        refine g_if_ne (tgt := 638) (q := 570) hC dL_refuses_567 (by decide) rfl (fun _ => live m2 _ _ _ hk hs hst) (fun c9 => absurd c9 (by decide))
      · rw [m1]
        refine g_if_ne (tgt := 638) (q := 570) hC dL_refuses_567 (by decide) rfl (fun c9 => absurd rfl c9) (fun _ => dead m2 _ _ _ hk hs hst)
    have h529 : ∀ (kx nx : Nat) (σ : gS), kx ≤ 792 → nx ≤ 11616 → St M φ a0 ρ σ → G X M 9 (gQ X M 950 15000 (rI (sQ M φ a0 1 ρ)) nX) kx nx σ 529 [(6, .int 1), (5, .int us), (4, .int lt), (3, .int (nI (ρ.1 10 3))), (0, .ref a0), (1, .ref mb), (2, .int (nI x))] [] := by
      intro kx nx σ hk hs hst
      obtain ⟨A, hled⟩ := hst.led hw.1
      refine g_aload_n (q := 530) (i := 0) hC dL_refuses_529 rfl rfl rfl ?_
      refine g_ci (q := 533) (g_runV hC kv_L_150 md_X4_findProject (t_find hC.fl hst hw) (ci := 4) rfl hled dL_refuses_530 (by decide) (by decide) (by omega) (by omega) rfl rfl (Nat.le_of_ble_eq_true rfl)) rfl (fun r σ ⟨e9, hst⟩ => ?_) (fun _ _ h9 => False.elim h9)
      subst e9
      cases hp : pop ρ (ρ.1 0 0) with
      | none =>
        refine g_if_lt (tgt := 545) (q := 536) hC dL_refuses_533 (by decide) rfl (fun _ => h545 _ _ _ (by omega) (by omega) hst) (fun c9 => absurd (by decide) c9)
      | some p9 =>
        have hp9 := pop_lt hw.1 _ _ hp
        refine g_if_lt (tgt := 545) (q := 536) hC dL_refuses_533 (by decide) rfl (fun c9 => absurd c9 (nI_pos (by omega))) (fun _ => ?_)
        refine g_aload_n (q := 537) (i := 0) hC dL_refuses_536 rfl rfl rfl ?_
        refine g_ci (q := 540) (g_runSH hC ks_L_146 md_L_makes (con_S (s_makes hC.fl hst hw) (rf_mk hw.1 (Or.inr (by rw [hp]; exact fun z => nomatch z)))) dL_refuses_537 (by decide) (by decide) (by omega) (by omega) rfl rfl (Nat.le_of_ble_eq_true rfl)) rfl (fun r σ ⟨e9, hst⟩ => ?_) (fun _ _ h9 => False.elim h9)
        subst e9
        refine g_ldc (q := 542) hC kk_L_18 dL_refuses_540 rfl ?_
        refine g_icmp_ne (tgt := 549) (q := 545) hC dL_refuses_542 (by decide) rfl (fun c9 => absurd rfl c9) (fun _ => ?_)
        exact h545 _ _ _ (by omega) (by omega) hst
    refine g_aload_n (q := 53) (i := 0) hC dL_refuses_52 rfl rfl rfl ?_
    refine g_bipush (q := 55) (v := nI 123) hC dL_refuses_53 rfl rfl ?_
    refine g_iload_n (q := 56) (i := 2) hC dL_refuses_55 rfl rfl rfl ?_
    refine g_sipush (q := 59) (v := nI 900) hC dL_refuses_56 rfl rfl ?_
    refine g_irem (q := 60) (v := (nI (x % 900))) hC dL_refuses_59 (by decide) (pk_rem (by omega) (by omega) (by omega)) rfl ?_
    refine g_iadd (q := 61) (v := (nI (123 + (x % 900)))) hC dL_refuses_60 (nI_add _ _) rfl ?_
    refine g_i2c (q := 62) (v := nI (123 + x % 900)) hC dL_refuses_61 (i2c_nI _ (by omega)) rfl ?_
    refine g_ci (q := 65) (g_runSH hC ks_L_89 md_L_types (con_A (s_types hC.fl (nI (123 + x % 900)) hst hw) (rq_type (Or.inr (show nI 122 < nI (123 + x % 900) from nI_lt (by omega) (by omega))))) dL_refuses_62 (by decide) (by decide) (by omega) (by omega) rfl rfl (Nat.le_of_ble_eq_true rfl)) rfl (fun r σ ⟨e9, hst⟩ => ?_) (fun _ _ h9 => False.elim h9)
    subst e9
    refine g_ldc (q := 67) hC kk_L_15 dL_refuses_65 rfl ?_
    refine g_icmp_ne (tgt := 398) (q := 70) hC dL_refuses_67 (by decide) rfl (fun c9 => absurd rfl c9) (fun _ => ?_)
    refine g_aload_n (q := 71) (i := 0) hC dL_refuses_70 rfl rfl rfl ?_
    refine g_iload_n (q := 72) (i := 2) hC dL_refuses_71 rfl rfl rfl ?_
    refine g_bipush (q := 74) (v := nI 97) hC dL_refuses_72 rfl rfl ?_
    refine g_irem (q := 75) (v := (nI (x % 97))) hC dL_refuses_74 (by decide) (pk_rem (by omega) (by omega) (by omega)) rfl ?_
    refine g_i2c (q := 76) (v := nI (x % 97)) hC dL_refuses_75 (i2c_nI _ (by omega)) rfl ?_
    refine g_ci (q := 79) (g_runSH hC ks_L_89 md_L_types (con_A (s_types hC.fl (nI (x % 97)) hst hw) (rq_type (Or.inl (show nI (x % 97) < nI 97 from nI_lt (by omega) (by omega))))) dL_refuses_76 (by decide) (by decide) (by omega) (by omega) rfl rfl (Nat.le_of_ble_eq_true rfl)) rfl (fun r σ ⟨e9, hst⟩ => ?_) (fun _ _ h9 => False.elim h9)
    subst e9
    refine g_ldc (q := 81) hC kk_L_15 dL_refuses_79 rfl ?_
    refine g_icmp_ne (tgt := 398) (q := 84) hC dL_refuses_81 (by decide) rfl (fun c9 => absurd rfl c9) (fun _ => ?_)
    refine g_aload_n (q := 85) (i := 0) hC dL_refuses_84 rfl rfl rfl ?_
    refine g_iload (q := 87) (i := 4) hC dL_refuses_85 rfl rfl ?_
    refine g_ci (q := 90) (g_runSH hC ks_L_95 md_L_movesProject (con_I (s_movesProject hC.fl lt hst hw) (rf_mv hlt)) dL_refuses_87 (by decide) (by decide) (by omega) (by omega) rfl rfl (Nat.le_of_ble_eq_true rfl)) rfl (fun r σ ⟨e9, hst⟩ => ?_) (fun _ _ h9 => False.elim h9)
    subst e9
    refine g_ldc (q := 92) hC kk_L_32 dL_refuses_90 rfl ?_
    refine g_icmp_ne (tgt := 398) (q := 95) hC dL_refuses_92 (by decide) rfl (fun c9 => absurd rfl c9) (fun _ => ?_)
    refine g_aload_n (q := 96) (i := 0) hC dL_refuses_95 rfl rfl rfl ?_
    refine g_iconst (q := 97) (v := nI 0) hC dL_refuses_96 rfl rfl ?_
    refine g_ci (q := 100) (g_runSH hC ks_L_95 md_L_movesProject (con_S (s_movesProject hC.fl (nI 0) hst hw) (rf_mv0 (inR_ok (by omega) (by omega)))) dL_refuses_97 (by decide) (by decide) (by omega) (by omega) rfl rfl (Nat.le_of_ble_eq_true rfl)) rfl (fun r σ ⟨e9, hst⟩ => ?_) (fun _ _ h9 => False.elim h9)
    subst e9
    refine g_ldc (q := 102) hC kk_L_18 dL_refuses_100 rfl ?_
    refine g_icmp_ne (tgt := 398) (q := 105) hC dL_refuses_102 (by decide) rfl (fun c9 => absurd rfl c9) (fun _ => ?_)
    refine g_aload_n (q := 106) (i := 0) hC dL_refuses_105 rfl rfl rfl ?_
    refine g_iload (q := 108) (i := 4) hC dL_refuses_106 rfl rfl ?_
    refine g_iconst (q := 109) (v := nI 0) hC dL_refuses_108 rfl rfl ?_
    refine g_ci (q := 112) (g_runSH hC ks_L_99 md_L_letter (con_I (s_letter hC.fl lt (nI 0) hst hw) (rf_lt (Or.inl hlt))) dL_refuses_109 (by decide) (by decide) (by omega) (by omega) rfl rfl (Nat.le_of_ble_eq_true rfl)) rfl (fun r σ ⟨e9, hst⟩ => ?_) (fun _ _ h9 => False.elim h9)
    subst e9
    refine g_ldc (q := 114) hC kk_L_32 dL_refuses_112 rfl ?_
    refine g_icmp_ne (tgt := 398) (q := 117) hC dL_refuses_114 (by decide) rfl (fun c9 => absurd rfl c9) (fun _ => ?_)
    refine g_aload_n (q := 118) (i := 0) hC dL_refuses_117 rfl rfl rfl ?_
    refine g_iload_n (q := 119) (i := 2) hC dL_refuses_118 rfl rfl rfl ?_
    refine g_iload_n (q := 120) (i := 3) hC dL_refuses_119 rfl rfl rfl ?_
    refine g_irem (q := 121) (v := (nI (x % (ρ.1 10 3)))) hC dL_refuses_120 (nI_ne0 (by omega) (by omega)) (pk_rem (by omega) (by omega) (by omega)) rfl ?_
    refine g_iconst (q := 122) (v := (-1)) hC dL_refuses_121 rfl rfl ?_
    refine g_iload_n (q := 123) (i := 2) hC dL_refuses_122 rfl rfl rfl ?_
    refine g_isub (q := 124) hC dL_refuses_123 rfl rfl ?_
    refine g_ci (q := 127) (g_runSH hC ks_L_99 md_L_letter (con_I (s_letter hC.fl (nI (x % ρ.1 10 3)) (-1 - nI x) hst hw) (rf_lt (Or.inr (sm_neg (by omega))))) dL_refuses_124 (by decide) (by decide) (by omega) (by omega) rfl rfl (Nat.le_of_ble_eq_true rfl)) rfl (fun r σ ⟨e9, hst⟩ => ?_) (fun _ _ h9 => False.elim h9)
    subst e9
    refine g_ldc (q := 129) hC kk_L_32 dL_refuses_127 rfl ?_
    refine g_icmp_ne (tgt := 398) (q := 132) hC dL_refuses_129 (by decide) rfl (fun c9 => absurd rfl c9) (fun _ => ?_)
    refine g_aload_n (q := 133) (i := 0) hC dL_refuses_132 rfl rfl rfl ?_
    refine g_iload_n (q := 134) (i := 2) hC dL_refuses_133 rfl rfl rfl ?_
    refine g_iload_n (q := 135) (i := 3) hC dL_refuses_134 rfl rfl rfl ?_
    refine g_irem (q := 136) (v := (nI (x % (ρ.1 10 3)))) hC dL_refuses_135 (nI_ne0 (by omega) (by omega)) (pk_rem (by omega) (by omega) (by omega)) rfl ?_
    refine g_bipush (q := 138) (v := nI 8) hC dL_refuses_136 rfl rfl ?_
    refine g_iload_n (q := 139) (i := 2) hC dL_refuses_138 rfl rfl rfl ?_
    refine g_iadd (q := 140) (v := (nI (8 + x))) hC dL_refuses_139 (nI_add _ _) rfl ?_
    refine g_ci (q := 143) (g_runSH hC ks_L_99 md_L_letter (con_v (s_letter hC.fl (nI (x % ρ.1 10 3)) (nI (8 + x)) hst hw) (lt_sp hw.1 hw.2 (Nat.mod_lt _ (by omega)) (by omega) (by omega))) dL_refuses_140 (by decide) (by decide) (by omega) (by omega) rfl rfl (Nat.le_of_ble_eq_true rfl)) rfl (fun r σ ⟨e9, hst⟩ => ?_) (fun _ _ h9 => False.elim h9)
    subst e9
    refine g_bipush (q := 145) (v := nI 32) hC dL_refuses_143 rfl rfl ?_
    refine g_icmp_ne (tgt := 398) (q := 148) hC dL_refuses_145 (by decide) rfl (fun c9 => absurd rfl c9) (fun _ => ?_)
    refine g_aload_n (q := 149) (i := 0) hC dL_refuses_148 rfl rfl rfl ?_
    refine g_iload (q := 151) (i := 5) hC dL_refuses_149 rfl rfl ?_
    refine g_iconst (q := 152) (v := nI 0) hC dL_refuses_151 rfl rfl ?_
    refine g_ci (q := 155) (g_runSH hC ks_L_103 md_L_makesFile (con_I (s_makesFile hC.fl us (nI 0) hst hw) (rf_mf (Or.inl hus))) dL_refuses_152 (by decide) (by decide) (by omega) (by omega) rfl rfl (Nat.le_of_ble_eq_true rfl)) rfl (fun r σ ⟨e9, hst⟩ => ?_) (fun _ _ h9 => False.elim h9)
    subst e9
    refine g_ldc (q := 157) hC kk_L_32 dL_refuses_155 rfl ?_
    refine g_icmp_ne (tgt := 398) (q := 160) hC dL_refuses_157 (by decide) rfl (fun c9 => absurd rfl c9) (fun _ => ?_)
    refine g_aload_n (q := 161) (i := 0) hC dL_refuses_160 rfl rfl rfl ?_
    refine g_iconst (q := 162) (v := nI 0) hC dL_refuses_161 rfl rfl ?_
    refine g_iload (q := 164) (i := 4) hC dL_refuses_162 rfl rfl ?_
    refine g_ci (q := 167) (g_runSH hC ks_L_103 md_L_makesFile (con_I (s_makesFile hC.fl (nI 0) lt hst hw) (rf_mf (Or.inr hlt))) dL_refuses_164 (by decide) (by decide) (by omega) (by omega) rfl rfl (Nat.le_of_ble_eq_true rfl)) rfl (fun r σ ⟨e9, hst⟩ => ?_) (fun _ _ h9 => False.elim h9)
    subst e9
    refine g_ldc (q := 169) hC kk_L_32 dL_refuses_167 rfl ?_
    refine g_icmp_ne (tgt := 398) (q := 172) hC dL_refuses_169 (by decide) rfl (fun c9 => absurd rfl c9) (fun _ => ?_)
    refine g_aload_n (q := 173) (i := 0) hC dL_refuses_172 rfl rfl rfl ?_
    refine g_bipush (q := 175) (v := nI 40) hC dL_refuses_173 rfl rfl ?_
    refine g_iload_n (q := 176) (i := 2) hC dL_refuses_175 rfl rfl rfl ?_
    refine g_iadd (q := 177) (v := (nI (40 + x))) hC dL_refuses_176 (nI_add _ _) rfl ?_
    refine g_sipush (q := 180) (v := nI 5000) hC dL_refuses_177 rfl rfl ?_
    refine g_ci (q := 183) (g_runSH hC ks_L_106 md_L_writes (con_I (s_writes hC.fl (nI (40 + x)) (nI 5000) hst hw) (rf_wr (lv_big hw.1 (by omega) (by omega)))) dL_refuses_180 (by decide) (by decide) (by omega) (by omega) rfl rfl (Nat.le_of_ble_eq_true rfl)) rfl (fun r σ ⟨e9, hst⟩ => ?_) (fun _ _ h9 => False.elim h9)
    subst e9
    refine g_ldc (q := 185) hC kk_L_32 dL_refuses_183 rfl ?_
    refine g_icmp_ne (tgt := 398) (q := 188) hC dL_refuses_185 (by decide) rfl (fun c9 => absurd rfl c9) (fun _ => ?_)
    refine g_aload_n (q := 189) (i := 0) hC dL_refuses_188 rfl rfl rfl ?_
    refine g_iconst (q := 190) (v := (-1)) hC dL_refuses_189 rfl rfl ?_
    refine g_iload_n (q := 191) (i := 2) hC dL_refuses_190 rfl rfl rfl ?_
    refine g_isub (q := 192) hC dL_refuses_191 rfl rfl ?_
    refine g_ci (q := 195) (g_runSH hC ks_L_109 md_L_deletes (con_I (s_deletes hC.fl (-1 - nI x) hst hw) (rf_dl (lv_neg (by omega)))) dL_refuses_192 (by decide) (by decide) (by omega) (by omega) rfl rfl (Nat.le_of_ble_eq_true rfl)) rfl (fun r σ ⟨e9, hst⟩ => ?_) (fun _ _ h9 => False.elim h9)
    subst e9
    refine g_ldc (q := 197) hC kk_L_32 dL_refuses_195 rfl ?_
    refine g_icmp_ne (tgt := 398) (q := 200) hC dL_refuses_197 (by decide) rfl (fun c9 => absurd rfl c9) (fun _ => ?_)
    refine g_aload_n (q := 201) (i := 0) hC dL_refuses_200 rfl rfl rfl ?_
    refine g_bipush (q := 203) (v := nI 40) hC dL_refuses_201 rfl rfl ?_
    refine g_iconst (q := 204) (v := nI 0) hC dL_refuses_203 rfl rfl ?_
    refine g_ci (q := 207) (g_runSH hC ks_L_112 md_L_movesFile (con_I (s_movesFile hC.fl (nI 40) (nI 0) hst hw) (rf_mo (lv_big hw.1 (by omega) (by omega)))) dL_refuses_204 (by decide) (by decide) (by omega) (by omega) rfl rfl (Nat.le_of_ble_eq_true rfl)) rfl (fun r σ ⟨e9, hst⟩ => ?_) (fun _ _ h9 => False.elim h9)
    subst e9
    refine g_ldc (q := 209) hC kk_L_32 dL_refuses_207 rfl ?_
    refine g_icmp_ne (tgt := 398) (q := 212) hC dL_refuses_209 (by decide) rfl (fun c9 => absurd rfl c9) (fun _ => ?_)
    refine g_aload_n (q := 213) (i := 0) hC dL_refuses_212 rfl rfl rfl ?_
    refine g_iconst (q := 214) (v := (-1)) hC dL_refuses_213 rfl rfl ?_
    refine g_iconst (q := 215) (v := nI 0) hC dL_refuses_214 rfl rfl ?_
    refine g_ci (q := 218) (g_runSH hC ks_L_115 md_L_reserves (con_I (s_reserves hC.fl (-1) (nI 0) hst hw) (rf_rs lv_m1)) dL_refuses_215 (by decide) (by decide) (by omega) (by omega) rfl rfl (Nat.le_of_ble_eq_true rfl)) rfl (fun r σ ⟨e9, hst⟩ => ?_) (fun _ _ h9 => False.elim h9)
    subst e9
    refine g_ldc (q := 220) hC kk_L_32 dL_refuses_218 rfl ?_
    refine g_icmp_ne (tgt := 398) (q := 223) hC dL_refuses_220 (by decide) rfl (fun c9 => absurd rfl c9) (fun _ => ?_)
    refine g_aload_n (q := 224) (i := 0) hC dL_refuses_223 rfl rfl rfl ?_
    refine g_bipush (q := 226) (v := nI 30) hC dL_refuses_224 rfl rfl ?_
    refine g_iload_n (q := 227) (i := 2) hC dL_refuses_226 rfl rfl rfl ?_
    refine g_iadd (q := 228) (v := (nI (30 + x))) hC dL_refuses_227 (nI_add _ _) rfl ?_
    refine g_iconst (q := 229) (v := nI 0) hC dL_refuses_228 rfl rfl ?_
    refine g_ci (q := 232) (g_runSH hC ks_L_118 md_L_settles (con_I (s_settles hC.fl (nI (30 + x)) (nI 0) hst hw) (rf_st (inR_big (by omega) (by omega)))) dL_refuses_229 (by decide) (by decide) (by omega) (by omega) rfl rfl (Nat.le_of_ble_eq_true rfl)) rfl (fun r σ ⟨e9, hst⟩ => ?_) (fun _ _ h9 => False.elim h9)
    subst e9
    refine g_ldc (q := 234) hC kk_L_32 dL_refuses_232 rfl ?_
    refine g_icmp_ne (tgt := 398) (q := 237) hC dL_refuses_234 (by decide) rfl (fun c9 => absurd rfl c9) (fun _ => ?_)
    refine g_aload_n (q := 238) (i := 0) hC dL_refuses_237 rfl rfl rfl ?_
    refine g_iconst (q := 239) (v := (-1)) hC dL_refuses_238 rfl rfl ?_
    refine g_iload_n (q := 240) (i := 2) hC dL_refuses_239 rfl rfl rfl ?_
    refine g_isub (q := 241) hC dL_refuses_240 rfl rfl ?_
    refine g_iconst (q := 242) (v := nI 0) hC dL_refuses_241 rfl rfl ?_
    refine g_ci (q := 245) (g_runSH hC ks_L_118 md_L_settles (con_I (s_settles hC.fl (-1 - nI x) (nI 0) hst hw) (rf_st (inR_neg (by omega)))) dL_refuses_242 (by decide) (by decide) (by omega) (by omega) rfl rfl (Nat.le_of_ble_eq_true rfl)) rfl (fun r σ ⟨e9, hst⟩ => ?_) (fun _ _ h9 => False.elim h9)
    subst e9
    refine g_ldc (q := 247) hC kk_L_32 dL_refuses_245 rfl ?_
    refine g_icmp_ne (tgt := 398) (q := 250) hC dL_refuses_247 (by decide) rfl (fun c9 => absurd rfl c9) (fun _ => ?_)
    refine g_aload_n (q := 251) (i := 0) hC dL_refuses_250 rfl rfl rfl ?_
    refine g_iconst (q := 252) (v := nI 3) hC dL_refuses_251 rfl rfl ?_
    refine g_iload_n (q := 253) (i := 2) hC dL_refuses_252 rfl rfl rfl ?_
    refine g_iadd (q := 254) (v := (nI (3 + x))) hC dL_refuses_253 (nI_add _ _) rfl ?_
    refine g_iconst (q := 255) (v := nI 0) hC dL_refuses_254 rfl rfl ?_
    refine g_iconst (q := 256) (v := nI 0) hC dL_refuses_255 rfl rfl ?_
    refine g_iconst (q := 257) (v := nI 0) hC dL_refuses_256 rfl rfl ?_
    refine g_iconst (q := 258) (v := nI 0) hC dL_refuses_257 rfl rfl ?_
    refine g_ci (q := 261) (g_runSH hC ks_L_121 md_L_limits (con_I (s_limits hC.fl (nI (3 + x)) (nI 0) (nI 0) (nI 0) (nI 0) hst hw) (rf_sl (acl_k (fun z => absurd ((nI_eq (a := 3 + x) (b := 0) (by omega) (by omega)).mp z) (by omega)) (fun z => absurd ((nI_eq (a := 3 + x) (b := 1) (by omega) (by omega)).mp z) (by omega)) (fun z => absurd ((nI_eq (a := 3 + x) (b := 2) (by omega) (by omega)).mp z) (by omega))))) dL_refuses_258 (by decide) (by decide) (by omega) (by omega) rfl rfl (Nat.le_of_ble_eq_true rfl)) rfl (fun r σ ⟨e9, hst⟩ => ?_) (fun _ _ h9 => False.elim h9)
    subst e9
    refine g_ldc (q := 263) hC kk_L_32 dL_refuses_261 rfl ?_
    refine g_icmp_ne (tgt := 398) (q := 266) hC dL_refuses_263 (by decide) rfl (fun c9 => absurd rfl c9) (fun _ => ?_)
    refine g_aload_n (q := 267) (i := 0) hC dL_refuses_266 rfl rfl rfl ?_
    refine g_iconst (q := 268) (v := nI 0) hC dL_refuses_267 rfl rfl ?_
    refine g_iload (q := 270) (i := 5) hC dL_refuses_268 rfl rfl ?_
    refine g_bipush (q := 272) (v := (-9)) hC dL_refuses_270 rfl rfl ?_
    refine g_iconst (q := 273) (v := nI 0) hC dL_refuses_272 rfl rfl ?_
    refine g_iconst (q := 274) (v := nI 0) hC dL_refuses_273 rfl rfl ?_
    refine g_ci (q := 277) (g_runSH hC ks_L_121 md_L_limits (con_I (s_limits hC.fl (nI 0) us (-9) (nI 0) (nI 0) hst hw) (rf_sl (acl_0f hus))) dL_refuses_274 (by decide) (by decide) (by omega) (by omega) rfl rfl (Nat.le_of_ble_eq_true rfl)) rfl (fun r σ ⟨e9, hst⟩ => ?_) (fun _ _ h9 => False.elim h9)
    subst e9
    refine g_ldc (q := 279) hC kk_L_32 dL_refuses_277 rfl ?_
    refine g_icmp_ne (tgt := 398) (q := 282) hC dL_refuses_279 (by decide) rfl (fun c9 => absurd rfl c9) (fun _ => ?_)
    refine g_aload_n (q := 283) (i := 0) hC dL_refuses_282 rfl rfl rfl ?_
    refine g_iconst (q := 284) (v := nI 1) hC dL_refuses_283 rfl rfl ?_
    refine g_iconst (q := 285) (v := nI 3) hC dL_refuses_284 rfl rfl ?_
    refine g_iload_n (q := 286) (i := 2) hC dL_refuses_285 rfl rfl rfl ?_
    refine g_iadd (q := 287) (v := (nI (3 + x))) hC dL_refuses_286 (nI_add _ _) rfl ?_
    refine g_iconst (q := 288) (v := nI 0) hC dL_refuses_287 rfl rfl ?_
    refine g_iconst (q := 289) (v := nI 0) hC dL_refuses_288 rfl rfl ?_
    refine g_iconst (q := 290) (v := nI 0) hC dL_refuses_289 rfl rfl ?_
    refine g_ci (q := 293) (g_runSH hC ks_L_121 md_L_limits (con_I (s_limits hC.fl (nI 1) (nI (3 + x)) (nI 0) (nI 0) (nI 0) hst hw) (rf_sl (acl_1f (inR_big (by omega) (by omega))))) dL_refuses_290 (by decide) (by decide) (by omega) (by omega) rfl rfl (Nat.le_of_ble_eq_true rfl)) rfl (fun r σ ⟨e9, hst⟩ => ?_) (fun _ _ h9 => False.elim h9)
    subst e9
    refine g_ldc (q := 295) hC kk_L_32 dL_refuses_293 rfl ?_
    refine g_icmp_ne (tgt := 398) (q := 298) hC dL_refuses_295 (by decide) rfl (fun c9 => absurd rfl c9) (fun _ => ?_)
    refine g_aload_n (q := 299) (i := 0) hC dL_refuses_298 rfl rfl rfl ?_
    refine g_iconst (q := 300) (v := nI 2) hC dL_refuses_299 rfl rfl ?_
    refine g_iload (q := 302) (i := 4) hC dL_refuses_300 rfl rfl ?_
    refine g_iconst (q := 303) (v := nI 0) hC dL_refuses_302 rfl rfl ?_
    refine g_iconst (q := 304) (v := nI 0) hC dL_refuses_303 rfl rfl ?_
    refine g_iconst (q := 305) (v := nI 0) hC dL_refuses_304 rfl rfl ?_
    refine g_ci (q := 308) (g_runSH hC ks_L_121 md_L_limits (con_I (s_limits hC.fl (nI 2) lt (nI 0) (nI 0) (nI 0) hst hw) (rf_sl (acl_2f hlt))) dL_refuses_305 (by decide) (by decide) (by omega) (by omega) rfl rfl (Nat.le_of_ble_eq_true rfl)) rfl (fun r σ ⟨e9, hst⟩ => ?_) (fun _ _ h9 => False.elim h9)
    subst e9
    refine g_ldc (q := 310) hC kk_L_32 dL_refuses_308 rfl ?_
    refine g_icmp_ne (tgt := 398) (q := 313) hC dL_refuses_310 (by decide) rfl (fun c9 => absurd rfl c9) (fun _ => ?_)
    obtain ⟨aa, ha⟩ := acl_z hw.1 (k := x % 3) (by omega)
    refine g_aload_n (q := 314) (i := 0) hC dL_refuses_313 rfl rfl rfl ?_
    refine g_iload_n (q := 315) (i := 2) hC dL_refuses_314 rfl rfl rfl ?_
    refine g_iconst (q := 316) (v := nI 3) hC dL_refuses_315 rfl rfl ?_
    refine g_irem (q := 317) (v := (nI (x % 3))) hC dL_refuses_316 (by decide) (pk_rem (by omega) (by omega) (by omega)) rfl ?_
    refine g_iconst (q := 318) (v := nI 0) hC dL_refuses_317 rfl rfl ?_
    refine g_ldc (q := 320) hC kk_L_125 dL_refuses_318 rfl ?_
    refine g_iload_n (q := 321) (i := 2) hC dL_refuses_320 rfl rfl rfl ?_
    refine g_iadd (q := 322) (v := nI (100001 + x)) hC dL_refuses_321 (nI_add 100001 x) rfl ?_
    refine g_iconst (q := 323) (v := nI 0) hC dL_refuses_322 rfl rfl ?_
    refine g_iconst (q := 324) (v := nI 0) hC dL_refuses_323 rfl rfl ?_
    refine g_ci (q := 327) (g_runSH hC ks_L_121 md_L_limits (con_A (s_limits hC.fl (nI (x % 3)) (nI 0) (nI (100001 + x)) (nI 0) (nI 0) hst hw) (rf_slA ha (lmO_1 (lm_big (h := 100000) (by decide) (by omega) (by omega))))) dL_refuses_324 (by decide) (by decide) (by omega) (by omega) rfl rfl (Nat.le_of_ble_eq_true rfl)) rfl (fun r σ ⟨e9, hst⟩ => ?_) (fun _ _ h9 => False.elim h9)
    subst e9
    refine g_ldc (q := 329) hC kk_L_15 dL_refuses_327 rfl ?_
    refine g_icmp_ne (tgt := 398) (q := 332) hC dL_refuses_329 (by decide) rfl (fun c9 => absurd rfl c9) (fun _ => ?_)
    refine g_aload_n (q := 333) (i := 0) hC dL_refuses_332 rfl rfl rfl ?_
    refine g_iload_n (q := 334) (i := 2) hC dL_refuses_333 rfl rfl rfl ?_
    refine g_iconst (q := 335) (v := nI 3) hC dL_refuses_334 rfl rfl ?_
    refine g_irem (q := 336) (v := (nI (x % 3))) hC dL_refuses_335 (by decide) (pk_rem (by omega) (by omega) (by omega)) rfl ?_
    refine g_iconst (q := 337) (v := nI 0) hC dL_refuses_336 rfl rfl ?_
    refine g_iconst (q := 338) (v := nI 0) hC dL_refuses_337 rfl rfl ?_
    refine g_bipush (q := 340) (v := (-2)) hC dL_refuses_338 rfl rfl ?_
    refine g_iload_n (q := 341) (i := 2) hC dL_refuses_340 rfl rfl rfl ?_
    refine g_isub (q := 342) hC dL_refuses_341 rfl rfl ?_
    refine g_iconst (q := 343) (v := nI 0) hC dL_refuses_342 rfl rfl ?_
    refine g_ci (q := 346) (g_runSH hC ks_L_121 md_L_limits (con_A (s_limits hC.fl (nI (x % 3)) (nI 0) (nI 0) (-2 - nI x) (nI 0) hst hw) (rf_slA ha (lmO_2 (lm_neg (by omega))))) dL_refuses_343 (by decide) (by decide) (by omega) (by omega) rfl rfl (Nat.le_of_ble_eq_true rfl)) rfl (fun r σ ⟨e9, hst⟩ => ?_) (fun _ _ h9 => False.elim h9)
    subst e9
    refine g_ldc (q := 348) hC kk_L_15 dL_refuses_346 rfl ?_
    refine g_icmp_ne (tgt := 398) (q := 351) hC dL_refuses_348 (by decide) rfl (fun c9 => absurd rfl c9) (fun _ => ?_)
    refine g_aload_n (q := 352) (i := 0) hC dL_refuses_351 rfl rfl rfl ?_
    refine g_iload_n (q := 353) (i := 2) hC dL_refuses_352 rfl rfl rfl ?_
    refine g_iconst (q := 354) (v := nI 3) hC dL_refuses_353 rfl rfl ?_
    refine g_irem (q := 355) (v := (nI (x % 3))) hC dL_refuses_354 (by decide) (pk_rem (by omega) (by omega) (by omega)) rfl ?_
    refine g_iconst (q := 356) (v := nI 0) hC dL_refuses_355 rfl rfl ?_
    refine g_iconst (q := 357) (v := nI 0) hC dL_refuses_356 rfl rfl ?_
    refine g_iconst (q := 358) (v := nI 0) hC dL_refuses_357 rfl rfl ?_
    refine g_bipush (q := 360) (v := nI 101) hC dL_refuses_358 rfl rfl ?_
    refine g_iload_n (q := 361) (i := 2) hC dL_refuses_360 rfl rfl rfl ?_
    refine g_iadd (q := 362) (v := (nI (101 + x))) hC dL_refuses_361 (nI_add _ _) rfl ?_
    refine g_ci (q := 365) (g_runSH hC ks_L_121 md_L_limits (con_A (s_limits hC.fl (nI (x % 3)) (nI 0) (nI 0) (nI 0) (nI (101 + x)) hst hw) (rf_slA ha (lmO_3 (lm_big (h := 100) (by decide) (by omega) (by omega))))) dL_refuses_362 (by decide) (by decide) (by omega) (by omega) rfl rfl (Nat.le_of_ble_eq_true rfl)) rfl (fun r σ ⟨e9, hst⟩ => ?_) (fun _ _ h9 => False.elim h9)
    subst e9
    refine g_ldc (q := 367) hC kk_L_15 dL_refuses_365 rfl ?_
    refine g_icmp_ne (tgt := 398) (q := 370) hC dL_refuses_367 (by decide) rfl (fun c9 => absurd rfl c9) (fun _ => ?_)
    refine g_aload_n (q := 371) (i := 0) hC dL_refuses_370 rfl rfl rfl ?_
    refine g_iconst (q := 372) (v := nI 0) hC dL_refuses_371 rfl rfl ?_
    refine g_ci (q := 375) (g_runSH hC ks_L_126 md_L_passes (con_A (s_passes hC.fl (nI 0) hst hw) (rf_ps (Or.inl (by decide)))) dL_refuses_372 (by decide) (by decide) (by omega) (by omega) rfl rfl (Nat.le_of_ble_eq_true rfl)) rfl (fun r σ ⟨e9, hst⟩ => ?_) (fun _ _ h9 => False.elim h9)
    subst e9
    refine g_ldc (q := 377) hC kk_L_15 dL_refuses_375 rfl ?_
    refine g_icmp_ne (tgt := 398) (q := 380) hC dL_refuses_377 (by decide) rfl (fun c9 => absurd rfl c9) (fun _ => ?_)
    refine g_aload_n (q := 381) (i := 0) hC dL_refuses_380 rfl rfl rfl ?_
    refine g_sipush (q := 384) (v := nI 1001) hC dL_refuses_381 rfl rfl ?_
    refine g_iload_n (q := 385) (i := 2) hC dL_refuses_384 rfl rfl rfl ?_
    refine g_iadd (q := 386) (v := (nI (1001 + x))) hC dL_refuses_385 (nI_add _ _) rfl ?_
    refine g_ci (q := 389) (g_runSH hC ks_L_126 md_L_passes (con_A (s_passes hC.fl (nI (1001 + x)) hst hw) (rf_ps (Or.inr (show nI 1000 < nI (1001 + x) from nI_lt (by omega) (by omega))))) dL_refuses_386 (by decide) (by decide) (by omega) (by omega) rfl rfl (Nat.le_of_ble_eq_true rfl)) rfl (fun r σ ⟨e9, hst⟩ => ?_) (fun _ _ h9 => False.elim h9)
    subst e9
    refine g_ldc (q := 391) hC kk_L_15 dL_refuses_389 rfl ?_
    refine g_icmp_ne (tgt := 398) (q := 394) hC dL_refuses_391 (by decide) rfl (fun c9 => absurd rfl c9) (fun _ => ?_)
    refine g_iconst (q := 395) (v := 1) hC dL_refuses_394 rfl rfl ?_
    refine g_goto (tgt := 399) hC dL_refuses_395 (by decide) ?_
    refine g_istore (q := 401) (i := 6) hC dL_refuses_399 (by decide) rfl ?_
    refine g_iload (q := 403) (i := 6) hC dL_refuses_401 rfl rfl ?_
    refine g_if_eq (tgt := 549) (q := 406) hC dL_refuses_403 (by decide) rfl (fun c9 => absurd c9 (by decide)) (fun _ => ?_)
    refine g_aload_n (q := 407) (i := 0) hC dL_refuses_406 rfl rfl rfl ?_
    refine g_iconst (q := 408) (v := (-1)) hC dL_refuses_407 rfl rfl ?_
    refine g_iload_n (q := 409) (i := 2) hC dL_refuses_408 rfl rfl rfl ?_
    refine g_isub (q := 410) hC dL_refuses_409 rfl rfl ?_
    refine g_iconst (q := 411) (v := nI 0) hC dL_refuses_410 rfl rfl ?_
    refine g_ci (q := 414) (g_runSH hC ks_L_129 md_L_used (con_I (s_used hC.fl (-1 - nI x) (nI 0) hst hw) (lo_acc_n (acl_k (fun z => by have h9 := sm_neg (k := x) (by omega); rw [z] at h9; exact absurd h9 (by decide)) (fun z => by have h9 := sm_neg (k := x) (by omega); rw [z] at h9; exact absurd h9 (by decide)) (fun z => by have h9 := sm_neg (k := x) (by omega); rw [z] at h9; exact absurd h9 (by decide))))) dL_refuses_411 (by decide) (by decide) (by omega) (by omega) rfl rfl (Nat.le_of_ble_eq_true rfl)) rfl (fun r σ ⟨e9, hst⟩ => ?_) (fun _ _ h9 => False.elim h9)
    subst e9
    refine g_ldc (q := 416) hC kk_L_32 dL_refuses_414 rfl ?_
    refine g_icmp_ne (tgt := 549) (q := 419) hC dL_refuses_416 (by decide) rfl (fun c9 => absurd rfl c9) (fun _ => ?_)
    refine g_aload_n (q := 420) (i := 0) hC dL_refuses_419 rfl rfl rfl ?_
    refine g_iconst (q := 421) (v := nI 0) hC dL_refuses_420 rfl rfl ?_
    refine g_iload (q := 423) (i := 5) hC dL_refuses_421 rfl rfl ?_
    refine g_ci (q := 426) (g_runSH hC ks_L_129 md_L_used (con_I (s_used hC.fl (nI 0) us hst hw) (lo_acc_n (acl_0f hus))) dL_refuses_423 (by decide) (by decide) (by omega) (by omega) rfl rfl (Nat.le_of_ble_eq_true rfl)) rfl (fun r σ ⟨e9, hst⟩ => ?_) (fun _ _ h9 => False.elim h9)
    subst e9
    refine g_ldc (q := 428) hC kk_L_32 dL_refuses_426 rfl ?_
    refine g_icmp_ne (tgt := 549) (q := 431) hC dL_refuses_428 (by decide) rfl (fun c9 => absurd rfl c9) (fun _ => ?_)
    refine g_aload_n (q := 432) (i := 0) hC dL_refuses_431 rfl rfl rfl ?_
    refine g_iconst (q := 433) (v := nI 1) hC dL_refuses_432 rfl rfl ?_
    refine g_iconst (q := 434) (v := nI 3) hC dL_refuses_433 rfl rfl ?_
    refine g_ci (q := 437) (g_runSH hC ks_L_131 md_L_files (con_I (s_files hC.fl (nI 1) (nI 3) hst hw) (lo_acc_n (acl_1f (by decide)))) dL_refuses_434 (by decide) (by decide) (by omega) (by omega) rfl rfl (Nat.le_of_ble_eq_true rfl)) rfl (fun r σ ⟨e9, hst⟩ => ?_) (fun _ _ h9 => False.elim h9)
    subst e9
    refine g_ldc (q := 439) hC kk_L_32 dL_refuses_437 rfl ?_
    refine g_icmp_ne (tgt := 549) (q := 442) hC dL_refuses_439 (by decide) rfl (fun c9 => absurd rfl c9) (fun _ => ?_)
    refine g_aload_n (q := 443) (i := 0) hC dL_refuses_442 rfl rfl rfl ?_
    refine g_iconst (q := 444) (v := nI 2) hC dL_refuses_443 rfl rfl ?_
    refine g_iload (q := 446) (i := 4) hC dL_refuses_444 rfl rfl ?_
    refine g_ci (q := 449) (g_runSH hC ks_L_134 md_L_usedAnew (con_I (s_usedAnew hC.fl (nI 2) lt hst hw) (lo_acc_n (acl_2f hlt))) dL_refuses_446 (by decide) (by decide) (by omega) (by omega) rfl rfl (Nat.le_of_ble_eq_true rfl)) rfl (fun r σ ⟨e9, hst⟩ => ?_) (fun _ _ h9 => False.elim h9)
    subst e9
    refine g_ldc (q := 451) hC kk_L_32 dL_refuses_449 rfl ?_
    refine g_icmp_ne (tgt := 549) (q := 454) hC dL_refuses_451 (by decide) rfl (fun c9 => absurd rfl c9) (fun _ => ?_)
    refine g_aload_n (q := 455) (i := 0) hC dL_refuses_454 rfl rfl rfl ?_
    refine g_iconst (q := 456) (v := nI 0) hC dL_refuses_455 rfl rfl ?_
    refine g_iload (q := 458) (i := 5) hC dL_refuses_456 rfl rfl ?_
    refine g_ci (q := 461) (g_runSH hC ks_L_137 md_L_grace (con_I (s_grace hC.fl (nI 0) us hst hw) (lo_acc_n (acl_0f hus))) dL_refuses_458 (by decide) (by decide) (by omega) (by omega) rfl rfl (Nat.le_of_ble_eq_true rfl)) rfl (fun r σ ⟨e9, hst⟩ => ?_) (fun _ _ h9 => False.elim h9)
    subst e9
    refine g_ldc (q := 463) hC kk_L_32 dL_refuses_461 rfl ?_
    refine g_icmp_ne (tgt := 549) (q := 466) hC dL_refuses_463 (by decide) rfl (fun c9 => absurd rfl c9) (fun _ => ?_)
    refine g_aload_n (q := 467) (i := 0) hC dL_refuses_466 rfl rfl rfl ?_
    refine g_bipush (q := 469) (v := nI 40) hC dL_refuses_467 rfl rfl ?_
    refine g_iload_n (q := 470) (i := 2) hC dL_refuses_469 rfl rfl rfl ?_
    refine g_iadd (q := 471) (v := (nI (40 + x))) hC dL_refuses_470 (nI_add _ _) rfl ?_
    refine g_ci (q := 474) (g_runSH hC ks_L_139 md_L_room (con_I (s_room hC.fl (nI (40 + x)) hst hw) (rf_rm (lv_big hw.1 (by omega) (by omega)))) dL_refuses_471 (by decide) (by decide) (by omega) (by omega) rfl rfl (Nat.le_of_ble_eq_true rfl)) rfl (fun r σ ⟨e9, hst⟩ => ?_) (fun _ _ h9 => False.elim h9)
    subst e9
    refine g_ldc (q := 476) hC kk_L_32 dL_refuses_474 rfl ?_
    refine g_icmp_ne (tgt := 549) (q := 479) hC dL_refuses_476 (by decide) rfl (fun c9 => absurd rfl c9) (fun _ => ?_)
    refine g_aload_n (q := 480) (i := 0) hC dL_refuses_479 rfl rfl rfl ?_
    refine g_iconst (q := 481) (v := nI 0) hC dL_refuses_480 rfl rfl ?_
    refine g_ci (q := 484) (g_runSH hC ks_L_141 md_L_recounts (con_A (s_recounts hC.fl (nI 0) hst hw) (rf_rc (Or.inl (by decide)))) dL_refuses_481 (by decide) (by decide) (by omega) (by omega) rfl rfl (Nat.le_of_ble_eq_true rfl)) rfl (fun r σ ⟨e9, hst⟩ => ?_) (fun _ _ h9 => False.elim h9)
    subst e9
    refine g_ldc (q := 486) hC kk_L_15 dL_refuses_484 rfl ?_
    refine g_icmp_ne (tgt := 549) (q := 489) hC dL_refuses_486 (by decide) rfl (fun c9 => absurd rfl c9) (fun _ => ?_)
    refine g_aload_n (q := 490) (i := 0) hC dL_refuses_489 rfl rfl rfl ?_
    refine g_bipush (q := 492) (v := nI 41) hC dL_refuses_490 rfl rfl ?_
    refine g_iload_n (q := 493) (i := 2) hC dL_refuses_492 rfl rfl rfl ?_
    refine g_iadd (q := 494) (v := (nI (41 + x))) hC dL_refuses_493 (nI_add _ _) rfl ?_
    refine g_ci (q := 497) (g_runSH hC ks_L_141 md_L_recounts (con_A (s_recounts hC.fl (nI (41 + x)) hst hw) (rf_rc (Or.inr (show nI 40 < nI (41 + x) from nI_lt (by omega) (by omega))))) dL_refuses_494 (by decide) (by decide) (by omega) (by omega) rfl rfl (Nat.le_of_ble_eq_true rfl)) rfl (fun r σ ⟨e9, hst⟩ => ?_) (fun _ _ h9 => False.elim h9)
    subst e9
    refine g_ldc (q := 499) hC kk_L_15 dL_refuses_497 rfl ?_
    refine g_icmp_ne (tgt := 549) (q := 502) hC dL_refuses_499 (by decide) rfl (fun c9 => absurd rfl c9) (fun _ => ?_)
    refine g_aload_n (q := 503) (i := 0) hC dL_refuses_502 rfl rfl rfl ?_
    refine g_iconst (q := 504) (v := nI 2) hC dL_refuses_503 rfl rfl ?_
    refine g_iload (q := 506) (i := 4) hC dL_refuses_504 rfl rfl ?_
    refine g_ci (q := 509) (g_runSH hC ks_L_144 md_L_counted (con_I (s_counted hC.fl (nI 2) lt hst hw) (rf_ct (acl_2f hlt))) dL_refuses_506 (by decide) (by decide) (by omega) (by omega) rfl rfl (Nat.le_of_ble_eq_true rfl)) rfl (fun r σ ⟨e9, hst⟩ => ?_) (fun _ _ h9 => False.elim h9)
    subst e9
    refine g_ldc (q := 511) hC kk_L_32 dL_refuses_509 rfl ?_
    refine g_icmp_ne (tgt := 549) (q := 514) hC dL_refuses_511 (by decide) rfl (fun c9 => absurd rfl c9) (fun _ => ?_)
    refine g_iload_n (q := 515) (i := 3) hC dL_refuses_514 rfl rfl rfl ?_
    refine g_bipush (q := 517) (v := nI 21) hC dL_refuses_515 rfl rfl ?_
    refine g_sub (lv0 := [(6, .int 1), (5, .int us), (4, .int lt), (3, .int (nI (ρ.1 10 3))), (0, .ref a0), (1, .ref mb), (2, .int (nI x))]) ⟨rfl, rfl, rfl, rfl, rfl, rfl, rfl, trivial⟩ ?_
    refine g_icmp_lt (tgt := 529) (q := 520) hC dL_refuses_517 (by decide) rfl (fun _ => h529 _ _ _ (by omega) (by omega) hst) (fun c9 => ?_)
    have h21 : 21 ≤ ρ.1 10 3 := Nat.not_lt.mp (fun z => c9 (nI_lt z (by omega)))
    refine g_aload_n (q := 521) (i := 0) hC dL_refuses_520 rfl rfl rfl ?_
    refine g_ci (q := 524) (g_runSH hC ks_L_146 md_L_makes (con_S (s_makes hC.fl hst hw) (rf_mk hw.1 (Or.inl h21))) dL_refuses_521 (by decide) (by decide) (by omega) (by omega) rfl rfl (Nat.le_of_ble_eq_true rfl)) rfl (fun r σ ⟨e9, hst⟩ => ?_) (fun _ _ h9 => False.elim h9)
    subst e9
    refine g_ldc (q := 526) hC kk_L_18 dL_refuses_524 rfl ?_
    refine g_icmp_ne (tgt := 549) (q := 529) hC dL_refuses_526 (by decide) rfl (fun c9 => absurd rfl c9) (fun _ => ?_)
    exact h529 _ _ _ (by omega) (by omega) hst
  obtain ⟨A, hled⟩ := hst.led hw.1
  refine g_aload_n (q := 1) (i := 0) hC dL_refuses_0 rfl rfl rfl ?_
  refine g_ci (q := 4) (g_runV hC kv_L_86 md_X4_projects (t_projects hC.fl hst hw) (ci := 4) rfl hled dL_refuses_1 (by decide) (by decide) (by omega) (by omega) rfl rfl (Nat.le_of_ble_eq_true rfl)) rfl (fun r σ ⟨e9, hst⟩ => ?_) (fun _ _ h9 => False.elim h9)
  subst e9
  have k28 : ∀ (lt : Int32), inR lt (ρ.1 10 3) = false → G X M 9 (gQ X M 950 15000 (rI (sQ M φ a0 1 ρ)) nX) (0 + 0) (0 + 0) σ 28 [(4, .int lt), (3, .int (nI (ρ.1 10 3))), (0, .ref a0), (1, .ref mb), (2, .int (nI x))] [] := by
    intro lt hlt
    refine g_iload_n (q := 29) (i := 2) hC dL_refuses_28 rfl rfl rfl ?_
    refine g_iconst (q := 30) (v := nI 2) hC dL_refuses_29 rfl rfl ?_
    refine g_irem (q := 31) (v := (nI (x % 2))) hC dL_refuses_30 (by decide) (pk_rem (by omega) (by omega) (by omega)) rfl ?_
    refine g_if_ne (tgt := 43) (q := 34) hC dL_refuses_31 (by decide) rfl (fun c_31 => ?_) (fun c_31 => ?_)
    · refine g_bipush (q := 45) (v := nI 6) hC dL_refuses_43 rfl rfl ?_
      refine g_iload_n (q := 46) (i := 2) hC dL_refuses_45 rfl rfl rfl ?_
      refine g_bipush (q := 48) (v := nI 60) hC dL_refuses_46 rfl rfl ?_
      refine g_irem (q := 49) (v := (nI (x % 60))) hC dL_refuses_48 (by decide) (pk_rem (by omega) (by omega) (by omega)) rfl ?_
      refine g_iadd (q := 50) (v := (nI (6 + (x % 60)))) hC dL_refuses_49 (nI_add _ _) rfl ?_
      refine g_istore (q := 52) (i := 5) hC dL_refuses_50 (by decide) rfl ?_
      exact main lt _ hlt (inR_big (by omega) (by omega)) σ hst
    · refine g_iconst (q := 35) (v := (-1)) hC dL_refuses_34 rfl rfl ?_
      refine g_iload_n (q := 36) (i := 2) hC dL_refuses_35 rfl rfl rfl ?_
      refine g_bipush (q := 38) (v := nI 60) hC dL_refuses_36 rfl rfl ?_
      refine g_irem (q := 39) (v := (nI (x % 60))) hC dL_refuses_38 (by decide) (pk_rem (by omega) (by omega) (by omega)) rfl ?_
      refine g_isub (q := 40) hC dL_refuses_39 rfl rfl ?_
      refine g_goto (tgt := 50) hC dL_refuses_40 (by decide) ?_
      refine g_istore (q := 52) (i := 5) hC dL_refuses_50 (by decide) rfl ?_
      exact main lt _ hlt (inR_neg (by omega)) σ hst
  refine g_istore_n (q := 5) (i := 3) hC dL_refuses_4 rfl (by decide) rfl ?_
  refine g_iload_n (q := 6) (i := 2) hC dL_refuses_5 rfl rfl rfl ?_
  refine g_iconst (q := 7) (v := nI 2) hC dL_refuses_6 rfl rfl ?_
  refine g_irem (q := 8) (v := (nI (x % 2))) hC dL_refuses_7 (by decide) (pk_rem (by omega) (by omega) (by omega)) rfl ?_
  refine g_if_ne (tgt := 20) (q := 11) hC dL_refuses_8 (by decide) rfl (fun c_8 => ?_) (fun c_8 => ?_)
  · refine g_iload_n (q := 21) (i := 3) hC dL_refuses_20 rfl rfl rfl ?_
    refine g_iload_n (q := 22) (i := 2) hC dL_refuses_21 rfl rfl rfl ?_
    refine g_bipush (q := 24) (v := nI 60) hC dL_refuses_22 rfl rfl ?_
    refine g_irem (q := 25) (v := (nI (x % 60))) hC dL_refuses_24 (by decide) (pk_rem (by omega) (by omega) (by omega)) rfl ?_
    refine g_iadd (q := 26) (v := (nI ((ρ.1 10 3) + (x % 60)))) hC dL_refuses_25 (nI_add _ _) rfl ?_
    refine g_istore (q := 28) (i := 4) hC dL_refuses_26 (by decide) rfl ?_
    exact k28 _ (inR_big (by omega) (by omega))
  · refine g_iconst (q := 12) (v := (-1)) hC dL_refuses_11 rfl rfl ?_
    refine g_iload_n (q := 13) (i := 2) hC dL_refuses_12 rfl rfl rfl ?_
    refine g_bipush (q := 15) (v := nI 60) hC dL_refuses_13 rfl rfl ?_
    refine g_irem (q := 16) (v := (nI (x % 60))) hC dL_refuses_15 (by decide) (pk_rem (by omega) (by omega) (by omega)) rfl ?_
    refine g_isub (q := 17) hC dL_refuses_16 rfl rfl ?_
    refine g_goto (tgt := 26) hC dL_refuses_17 (by decide) ?_
    refine g_istore (q := 28) (i := 4) hC dL_refuses_26 (by decide) rfl ?_
    exact k28 _ (inR_neg (by omega))
