/-! THE LAW: what is asked of any night. -/
section
variable {G : GT} {sc : NC} {a ro rq hh gg ee : Nat} {R D W T n : Nat} {ok : Bool}
theorem lw_637 (hap : n_ap [(ro, shX), (rq, shX), (hh, [.inr (0, 64)]), (gg, [.inr (0, 64)]), (ee, [.inr (0, 48)])]) (hB : 2 ≤ R ∧ R ≤ 5 ∧ 1 ≤ D ∧ D ≤ 6 ∧ 1 ≤ W ∧ W ≤ 3 ∧ 1 ≤ T ∧ T ≤ 5 ∧ n ≤ 9) {N : NM} {M Nn M' Nn' : MI} {c : Int} (hc : c = b01 (ok = true)) (qN : QI R D W T n ok N M Nn M' Nn') : n_Run G mtL_law room_1 n_Zl sc [(ro, shX), (rq, shX), (hh, [.inr (0, 64)]), (gg, [.inr (0, 64)]), (ee, [.inr (0, 48)])] 600000 7302250 635 [(0, mr a), (1, mr ro), (2, mr rq), (3, mr hh), (4, mr gg), (5, mr ee), (6, mi (W : Int)), (7, mi (T : Int)), (8, mi (R : Int)), (9, mi (n : Int)), (10, mi c)] [] N := by
  have cr := b01_r (ok = true)
  rw [← hc] at cr
  refine n_iload dL_law_635 10 rfl ?_
  refine n_if_ne (tgt := 707) dL_law_637 (by decide) (by omega) (fun h637 => ?_) (fun h637 => ?_)
  · refine n_top (lv' := [(0, _), (1, _), (2, _), (3, _), (4, _), (5, _), (6, _), (7, _), (8, _), (9, _)]) 10 rfl ?_
    have k1 : ok = true := b01_ne.mp (by rw [← hc]; exact h637)
    subst k1
    refine n_iconst dL_law_707 ?_
    refine n_istore (lv' := [(0, _), (1, _), (2, _), (3, _), (4, _), (5, _), (6, _), (7, _), (8, _), (9, _), (13, _)]) dL_law_708 rfl rfl ?_
    exact lw_710 hap hB 0 (Nat.zero_le _) qN
  · have k0 : okA M = false := by
      rw [qN.2.2.2.1]
      have := mt (b01_ne (c := ok = true)).mpr (by rw [← hc]; omega)
      simpa using this
    refine n_aload_n dL_law_640 1 rfl rfl ?_
    refine n_iconst dL_law_641 ?_
    refine n_iconst dL_law_642 ?_
    refine n_callWi (i := 0) (as := [_, _]) dL_law_643 lvL_90 rfl rfl ⟨rfl, rfl⟩ hap rfl (x_cheapest qN.1.1 (by omega) (by omega)) (fun _ _ => rfl) rfl rfl rfl ⟨Nat.le_of_ble_eq_true rfl, Nat.le_of_ble_eq_true rfl⟩ (fun z643 N643 hq643 ho643 => ?_)
    obtain ⟨e643, c643⟩ := hq643
    have qN643 := qN.o c643 (cheapest_v _ _) ho643
    refine n_istore (lv' := [(0, _), (1, _), (2, _), (3, _), (4, _), (5, _), (6, _), (7, _), (8, _), (9, _), (10, _), (13, _)]) dL_law_646 rfl rfl ?_
    have r1 := cheap_r (M := M) qN.2.1 (m := 3) (f := 5) (by omega) (by omega)
    rw [← e643] at r1
    refine n_iload dL_law_648 11 rfl ?_
    refine n_bipush dL_law_650 (by decide) ?_
    refine n_ic_eq (tgt := 701) dL_law_652 (by decide) (by omega) (fun h652 => ?_) (fun h652 => ?_)
    · refine n_iconst dL_law_701 ?_
      refine n_goto (tgt := 706) dL_law_702 (by decide) ?_
      exact n_law_ret dL_law_706
    · have d1 := dear qN.2.1 k0 (cheapest_v 3 5) ((cheapest_v 3 5).tr (cheapest_v 2 5)) (((cheapest_v 3 5).tr (cheapest_v 2 5)).tr (cheapest_v 3 4)) ((((cheapest_v 3 5).tr (cheapest_v 2 5)).tr (cheapest_v 3 4)).tr (cheapest_v 0 0)) (by rw [← e643]; omega)
      rw [← e643] at d1
      refine n_iload dL_law_655 11 rfl ?_
      refine n_if_le (tgt := 705) dL_law_657 (by decide) (by omega) (fun h657 => ?_) (fun h657 => ?_)
      · exfalso; omega
      · refine n_aload_n dL_law_660 1 rfl rfl ?_
        refine n_iconst dL_law_661 ?_
        refine n_iconst dL_law_662 ?_
        refine n_callWi (i := 0) (as := [_, _]) dL_law_663 lvL_90 rfl rfl ⟨rfl, rfl⟩ hap rfl (x_cheapest qN643.1.1 (by omega) (by omega)) (fun _ _ => rfl) rfl rfl rfl ⟨Nat.le_of_ble_eq_true rfl, Nat.le_of_ble_eq_true rfl⟩ (fun z663 N663 hq663 ho663 => ?_)
        obtain ⟨e663, c663⟩ := hq663
        have qN663 := qN643.o c663 (cheapest_v _ _) ho663
        refine n_iload dL_law_666 11 rfl ?_
        have r2 := cheap_r qN643.2.1 (m := 2) (f := 5) (by omega) (by omega)
        rw [← e663] at r2 d1
        refine n_ic_gt (tgt := 705) dL_law_668 (by decide) (by omega) (fun h668 => ?_) (fun h668 => ?_)
        · exfalso; omega
        · refine n_aload_n dL_law_671 1 rfl rfl ?_
          refine n_iconst dL_law_672 ?_
          refine n_iconst dL_law_673 ?_
          refine n_callWi (i := 0) (as := [_, _]) dL_law_674 lvL_90 rfl rfl ⟨rfl, rfl⟩ hap rfl (x_cheapest qN663.1.1 (by omega) (by omega)) (fun _ _ => rfl) rfl rfl rfl ⟨Nat.le_of_ble_eq_true rfl, Nat.le_of_ble_eq_true rfl⟩ (fun z674 N674 hq674 ho674 => ?_)
          obtain ⟨e674, c674⟩ := hq674
          have qN674 := qN663.o c674 (cheapest_v _ _) ho674
          refine n_iload dL_law_677 11 rfl ?_
          have r3 := cheap_r qN663.2.1 (m := 3) (f := 4) (by omega) (by omega)
          rw [← e674] at r3 d1
          refine n_ic_gt (tgt := 705) dL_law_679 (by decide) (by omega) (fun h679 => ?_) (fun h679 => ?_)
          · exfalso; omega
          · refine n_aload_n dL_law_682 1 rfl rfl ?_
            refine n_iconst dL_law_683 ?_
            refine n_iconst dL_law_684 ?_
            refine n_callWi (i := 0) (as := [_, _]) dL_law_685 lvL_90 rfl rfl ⟨rfl, rfl⟩ hap rfl (x_cheapest qN674.1.1 (by omega) (by omega)) (fun _ _ => rfl) rfl rfl rfl ⟨Nat.le_of_ble_eq_true rfl, Nat.le_of_ble_eq_true rfl⟩ (fun z685 N685 hq685 ho685 => ?_)
            obtain ⟨e685, c685⟩ := hq685
            have qN685 := qN674.o c685 (cheapest_v _ _) ho685
            have r4 := cheap_r qN674.2.1 (m := 0) (f := 0) (by omega) (by omega)
            rw [← e685] at r4 d1
            refine n_if_ne (tgt := 705) dL_law_688 (by decide) (by omega) (fun h688 => ?_) (fun h688 => ?_)
            · exfalso; omega
            · refine n_aload_n dL_law_691 1 rfl rfl ?_
              refine n_iconst dL_law_692 ?_
              refine n_iconst dL_law_693 ?_
              refine n_iconst dL_law_694 ?_
              refine n_callWi (i := 0) (as := [_, _, _]) dL_law_695 lvL_96 rfl rfl ⟨rfl, rfl⟩ hap rfl (x_settle qN685.1.1 (by omega) (by omega) (by omega)) (fun _ _ => rfl) rfl rfl rfl ⟨Nat.le_of_ble_eq_true rfl, Nat.le_of_ble_eq_true rfl⟩ (fun z695 N695 hq695 ho695 => ?_)
              obtain ⟨e695, c695⟩ := hq695
              have qN695 := qN685.o c695 (settle_v _ _ _) ho695
              have r5 := settle_r qN685.2.1 (m := 3) (f := 5) (q := 0) (by omega) (by omega) (by omega)
              rw [← e695] at r5 d1
              refine n_if_lt (tgt := 705) dL_law_698 (by decide) (by omega) (fun h698 => ?_) (fun h698 => ?_)
              · exfalso; omega
              · refine n_iconst dL_law_701 ?_
                refine n_goto (tgt := 706) dL_law_702 (by decide) ?_
                exact n_law_ret dL_law_706
theorem lw_596 (hap : n_ap [(ro, shX), (rq, shX), (hh, [.inr (0, 64)]), (gg, [.inr (0, 64)]), (ee, [.inr (0, 48)])]) (hB : 2 ≤ R ∧ R ≤ 5 ∧ 1 ≤ D ∧ D ≤ 6 ∧ 1 ≤ W ∧ W ≤ 3 ∧ 1 ≤ T ∧ T ≤ 5 ∧ n ≤ 9) {N : NM} {M Nn M' Nn' : MI} {c : Int} (hc : c = b01 (ok = true)) (qN : QI R D W T n ok N M Nn M' Nn') : n_Run G mtL_law room_1 n_Zl sc [(ro, shX), (rq, shX), (hh, [.inr (0, 64)]), (gg, [.inr (0, 64)]), (ee, [.inr (0, 48)])] 600000 7302250 596 [(0, mr a), (1, mr ro), (2, mr rq), (3, mr hh), (4, mr gg), (5, mr ee), (6, mi (W : Int)), (7, mi (T : Int)), (8, mi (R : Int)), (9, mi (n : Int)), (10, mi c)] [] N := by
  have s1 := settle_m qN.2.1 (m := 3) (f := 5) (q := 4) (by omega) (by omega) (by omega)
  have r1 := settle_r qN.2.1 (m := 3) (f := 5) (q := 4) (by omega) (by omega) (by omega)
  refine n_aload_n dL_law_596 1 rfl rfl ?_
  refine n_iconst dL_law_597 ?_
  refine n_iconst dL_law_598 ?_
  refine n_iconst dL_law_599 ?_
  refine n_callWi (i := 0) (as := [_, _, _]) dL_law_600 lvL_96 rfl rfl ⟨rfl, rfl⟩ hap rfl (x_settle qN.1.1 (by omega) (by omega) (by omega)) (fun _ _ => rfl) rfl rfl rfl ⟨Nat.le_of_ble_eq_true rfl, Nat.le_of_ble_eq_true rfl⟩ (fun z600 N600 hq600 ho600 => ?_)
  obtain ⟨e600, c600⟩ := hq600
  have qN600 := qN.o c600 (settle_v _ _ _) ho600
  rw [← e600] at r1
  refine n_istore (lv' := [(0, _), (1, _), (2, _), (3, _), (4, _), (5, _), (6, _), (7, _), (8, _), (9, _), (10, _), (12, _)]) dL_law_603 rfl rfl ?_
  refine n_aload_n dL_law_605 2 rfl rfl ?_
  refine n_iconst dL_law_606 ?_
  refine n_iconst dL_law_607 ?_
  refine n_iconst dL_law_608 ?_
  refine n_callWi (i := 1) (as := [_, _, _]) dL_law_609 lvL_96 rfl rfl ⟨rfl, rfl⟩ hap rfl (x_settle qN600.1.2 (by omega) (by omega) (by omega)) (fun _ _ => rfl) rfl rfl rfl ⟨Nat.le_of_ble_eq_true rfl, Nat.le_of_ble_eq_true rfl⟩ (fun z609 N609 hq609 ho609 => ?_)
  obtain ⟨e609, c609⟩ := hq609
  have qN609 := qN600.q c609 (settle_v _ _ _) ho609
  refine n_iload dL_law_612 11 rfl ?_
  refine n_neF (tgt := 633) dL_law_614 (by decide) (by rw [e609, e600]; exact s1.1) ?_
  refine n_iload dL_law_617 11 rfl ?_
  refine n_if_lt (tgt := 635) dL_law_619 (by decide) (by omega) (fun h619 => ?_) (fun h619 => ?_)
  · refine n_top (lv' := [(0, _), (1, _), (2, _), (3, _), (4, _), (5, _), (6, _), (7, _), (8, _), (9, _), (10, _)]) 11 rfl ?_
    exact lw_637 hap hB hc qN609
  · refine n_aload_n dL_law_622 1 rfl rfl ?_
    refine n_callGi (i := 0) (as := []) dL_law_623 lvL_93 rfl rfl ⟨rfl, rfl⟩ hap rfl (x_asked qN609.1.1) (fun _ _ => rfl) rfl rfl rfl ⟨Nat.le_of_ble_eq_true rfl, Nat.le_of_ble_eq_true rfl⟩ ?_
    refine n_aload_n dL_law_626 2 rfl rfl ?_
    refine n_callGi (i := 1) (as := []) dL_law_627 lvL_93 rfl rfl ⟨rfl, rfl⟩ hap rfl (x_asked qN609.1.2) (fun _ _ => rfl) rfl rfl rfl ⟨Nat.le_of_ble_eq_true rfl, Nat.le_of_ble_eq_true rfl⟩ ?_
    refine n_eqT (tgt := 635) dL_law_630 (by decide) ((s1.2 (by rw [← e600]; omega)).symm) ?_
    refine n_top (lv' := [(0, _), (1, _), (2, _), (3, _), (4, _), (5, _), (6, _), (7, _), (8, _), (9, _), (10, _)]) 11 rfl ?_
    exact lw_637 hap hB hc qN609
theorem lw_467 (hap : n_ap [(ro, shX), (rq, shX), (hh, [.inr (0, 64)]), (gg, [.inr (0, 64)]), (ee, [.inr (0, 48)])]) (hB : 2 ≤ R ∧ R ≤ 5 ∧ 1 ≤ D ∧ D ≤ 6 ∧ 1 ≤ W ∧ W ≤ 3 ∧ 1 ≤ T ∧ T ≤ 5 ∧ n ≤ 9) {N : NM} {M Nn M' Nn' : MI} (qN : QI R D W T n ok N M Nn M' Nn') : n_Run G mtL_law room_1 n_Zl sc [(ro, shX), (rq, shX), (hh, [.inr (0, 64)]), (gg, [.inr (0, 64)]), (ee, [.inr (0, 48)])] 600000 7302250 467 [(0, mr a), (1, mr ro), (2, mr rq), (3, mr hh), (4, mr gg), (5, mr ee), (6, mi (W : Int)), (7, mi (T : Int)), (8, mi (R : Int)), (9, mi (n : Int))] [] N := by
  have cr := b01_r (ok = true)
  have bd := qN.bd (by omega) (by omega) (by omega)
  have k1 := (could_v qN.2.1).1
  rw [qN.2.2.2.1] at k1
  have k2 := (could_v qN.2.1.sy).1
  rw [qN.2.1.ok, qN.2.2.2.1] at k2
  refine n_aload_n dL_law_467 1 rfl rfl ?_
  refine n_callWi (i := 0) (as := []) dL_law_468 lvL_73 rfl rfl ⟨rfl, rfl⟩ hap rfl (x_could qN.1.1) (fun _ _ => rfl) rfl rfl rfl ⟨Nat.le_of_ble_eq_true rfl, Nat.le_of_ble_eq_true rfl⟩ (fun z468 N468 hq468 ho468 => ?_)
  obtain ⟨e468, c468⟩ := hq468
  have qN468 := qN.o c468 ((could_v qN.2.1).2) ho468
  refine n_istore (lv' := [(0, _), (1, _), (2, _), (3, _), (4, _), (5, _), (6, _), (7, _), (8, _), (9, _), (10, _)]) dL_law_471 rfl rfl ?_
  refine n_aload_n dL_law_473 2 rfl rfl ?_
  refine n_callWi (i := 1) (as := []) dL_law_474 lvL_73 rfl rfl ⟨rfl, rfl⟩ hap rfl (x_could qN468.1.2) (fun _ _ => rfl) rfl rfl rfl ⟨Nat.le_of_ble_eq_true rfl, Nat.le_of_ble_eq_true rfl⟩ (fun z474 N474 hq474 ho474 => ?_)
  obtain ⟨e474, c474⟩ := hq474
  have qN474 := qN468.q c474 ((could_v qN468.2.1.sy).2) ho474
  refine n_iload dL_law_477 10 rfl ?_
  have bd1 := qN474.bd (by omega) (by omega) (by omega)
  have w1 := ways_v qN474.2.1 bd1
  rw [qN474.2.2.2.1] at w1
  have w2 := ways_v qN474.2.1.sy (bd1.m qN474.2.1)
  rw [qN474.2.1.ok, qN474.2.2.2.1] at w2
  have w3 := ways_m qN474.2.1 bd1
  have w4 := ways_r qN474.2.1 bd1
  have f1 := fewest_m qN474.2.1
  refine n_neF (tgt := 557) dL_law_479 (by decide) (by rw [e474, e468, k1, k2]) ?_
  refine n_aload_n dL_law_482 1 rfl rfl ?_
  refine n_callWi (i := 0) (as := []) dL_law_483 lvL_77 rfl rfl ⟨rfl, rfl⟩ hap rfl (x_ways qN474.1.1) (fun _ _ => rfl) rfl rfl rfl ⟨Nat.le_of_ble_eq_true rfl, Nat.le_of_ble_eq_true rfl⟩ (fun z483 N483 hq483 ho483 => ?_)
  obtain ⟨e483, c483⟩ := hq483
  have qN483 := qN474.o c483 (HN.rf _) ho483
  refine n_iload dL_law_486 10 rfl ?_
  refine n_neF (tgt := 557) dL_law_488 (by decide) (by rw [e483, e468, k1]; exact (w1 Nn).1) ?_
  refine n_aload_n dL_law_491 1 rfl rfl ?_
  refine n_callGl (i := 0) (as := []) dL_law_492 lvL_80 rfl rfl ⟨rfl, rfl⟩ hap rfl (x_many qN483.1.1) (fun _ _ => rfl) rfl rfl rfl ⟨Nat.le_of_ble_eq_true rfl, Nat.le_of_ble_eq_true rfl⟩ ?_
  refine n_iload dL_law_495 10 rfl ?_
  have w5 := w1 Nn
  have w6 := w4 Nn
  refine n_i2l dL_law_497 (by omega) ?_
  refine n_lc_lt (tgt := 557) dL_law_498 dL_law_499 (by decide) (by rw [e468, k1]; omega) (fun h498 => ?_) (fun h498 => ?_)
  · exfalso; omega
  · refine n_aload_n dL_law_502 2 rfl rfl ?_
    refine n_callWi (i := 1) (as := []) dL_law_503 lvL_77 rfl rfl ⟨rfl, rfl⟩ hap rfl (x_ways qN483.1.2) (fun _ _ => rfl) rfl rfl rfl ⟨Nat.le_of_ble_eq_true rfl, Nat.le_of_ble_eq_true rfl⟩ (fun z503 N503 hq503 ho503 => ?_)
    obtain ⟨e503, c503⟩ := hq503
    have qN503 := qN483.q c503 (HN.rf _) ho503
    refine n_iload dL_law_506 10 rfl ?_
    refine n_neF (tgt := 557) dL_law_508 (by decide) (by rw [e503, e468, k1]; exact (w2 Nn').1) ?_
    refine n_aload_n dL_law_511 2 rfl rfl ?_
    refine n_callGl (i := 1) (as := []) dL_law_512 lvL_80 rfl rfl ⟨rfl, rfl⟩ hap rfl (x_many qN503.1.2) (fun _ _ => rfl) rfl rfl rfl ⟨Nat.le_of_ble_eq_true rfl, Nat.le_of_ble_eq_true rfl⟩ ?_
    refine n_aload_n dL_law_515 1 rfl rfl ?_
    refine n_callGl (i := 0) (as := []) dL_law_516 lvL_80 rfl rfl ⟨rfl, rfl⟩ hap rfl (x_many qN503.1.1) (fun _ _ => rfl) rfl rfl rfl ⟨Nat.le_of_ble_eq_true rfl, Nat.le_of_ble_eq_true rfl⟩ ?_
    refine n_lneF (tgt := 557) dL_law_519 dL_law_520 (by decide) (w3 Nn Nn') ?_
    refine n_aload_n dL_law_523 1 rfl rfl ?_
    refine n_callWi (i := 0) (as := []) dL_law_524 lvL_84 rfl rfl ⟨rfl, rfl⟩ hap rfl (x_fewest qN503.1.1) (fun _ _ => rfl) rfl rfl rfl ⟨Nat.le_of_ble_eq_true rfl, Nat.le_of_ble_eq_true rfl⟩ (fun z524 N524 hq524 ho524 => ?_)
    obtain ⟨e524, c524⟩ := hq524
    have qN524 := qN503.o c524 (HN.rf _) ho524
    refine n_aload_n dL_law_527 2 rfl rfl ?_
    refine n_callWi (i := 1) (as := []) dL_law_528 lvL_84 rfl rfl ⟨rfl, rfl⟩ hap rfl (x_fewest qN524.1.2) (fun _ _ => rfl) rfl rfl rfl ⟨Nat.le_of_ble_eq_true rfl, Nat.le_of_ble_eq_true rfl⟩ (fun z528 N528 hq528 ho528 => ?_)
    obtain ⟨e528, c528⟩ := hq528
    have qN528 := qN524.q c528 (HN.rf _) ho528
    refine n_neF (tgt := 557) dL_law_531 (by decide) (by rw [e524, e528]; exact f1.symm) ?_
    refine n_aload_n dL_law_534 1 rfl rfl ?_
    refine n_callWi (i := 0) (as := []) dL_law_535 lvL_87 rfl rfl ⟨rfl, rfl⟩ hap rfl (x_quarrel qN528.1.1) (fun _ _ => rfl) rfl rfl rfl ⟨Nat.le_of_ble_eq_true rfl, Nat.le_of_ble_eq_true rfl⟩ (fun z535 N535 hq535 ho535 => ?_)
    obtain ⟨e535, c535⟩ := hq535
    have qN535 := qN528.o c535 (HN.rf _) ho535
    refine n_aload_n dL_law_538 2 rfl rfl ?_
    refine n_callWi (i := 1) (as := []) dL_law_539 lvL_87 rfl rfl ⟨rfl, rfl⟩ hap rfl (x_quarrel qN535.1.2) (fun _ _ => rfl) rfl rfl rfl ⟨Nat.le_of_ble_eq_true rfl, Nat.le_of_ble_eq_true rfl⟩ (fun z539 N539 hq539 ho539 => ?_)
    obtain ⟨e539, c539⟩ := hq539
    have qN539 := qN535.q c539 (HN.rf _) ho539
    refine n_neF (tgt := 557) dL_law_542 (by decide) (by rw [e535, e539]; exact (quarrel_m qN528.2.1 (w3 Nn Nn')).1.symm) ?_
    refine n_aload_n dL_law_545 1 rfl rfl ?_
    refine n_callGl (i := 0) (as := []) dL_law_546 lvL_80 rfl rfl ⟨rfl, rfl⟩ hap rfl (x_many qN539.1.1) (fun _ _ => rfl) rfl rfl rfl ⟨Nat.le_of_ble_eq_true rfl, Nat.le_of_ble_eq_true rfl⟩ ?_
    refine n_aload_n dL_law_549 2 rfl rfl ?_
    refine n_callGl (i := 1) (as := []) dL_law_550 lvL_80 rfl rfl ⟨rfl, rfl⟩ hap rfl (x_many qN539.1.2) (fun _ _ => rfl) rfl rfl rfl ⟨Nat.le_of_ble_eq_true rfl, Nat.le_of_ble_eq_true rfl⟩ ?_
    refine n_leqT (tgt := 559) dL_law_553 dL_law_554 (by decide) ((quarrel_m qN528.2.1 (w3 Nn Nn')).2.symm) ?_
    refine n_aload_n dL_law_559 1 rfl rfl ?_
    refine n_iconst dL_law_560 ?_
    refine n_iconst dL_law_561 ?_
    have p2 := qN539.2.1
    have s1 := cheapest_m p2 (m := 3) (f := 5) (by omega) (by omega)
    have r1 := cheap_r p2 (m := 3) (f := 5) (by omega) (by omega)
    refine n_callWi (i := 0) (as := [_, _]) dL_law_562 lvL_90 rfl rfl ⟨rfl, rfl⟩ hap rfl (x_cheapest qN539.1.1 (by omega) (by omega)) (fun _ _ => rfl) rfl rfl rfl ⟨Nat.le_of_ble_eq_true rfl, Nat.le_of_ble_eq_true rfl⟩ (fun z562 N562 hq562 ho562 => ?_)
    obtain ⟨e562, c562⟩ := hq562
    have qN562 := qN539.o c562 (cheapest_v _ _) ho562
    rw [← e562] at r1
    refine n_istore (lv' := [(0, _), (1, _), (2, _), (3, _), (4, _), (5, _), (6, _), (7, _), (8, _), (9, _), (10, _), (11, _)]) dL_law_565 rfl rfl ?_
    refine n_aload_n dL_law_567 2 rfl rfl ?_
    refine n_iconst dL_law_568 ?_
    refine n_iconst dL_law_569 ?_
    refine n_callWi (i := 1) (as := [_, _]) dL_law_570 lvL_90 rfl rfl ⟨rfl, rfl⟩ hap rfl (x_cheapest qN562.1.2 (by omega) (by omega)) (fun _ _ => rfl) rfl rfl rfl ⟨Nat.le_of_ble_eq_true rfl, Nat.le_of_ble_eq_true rfl⟩ (fun z570 N570 hq570 ho570 => ?_)
    obtain ⟨e570, c570⟩ := hq570
    have qN570 := qN562.q c570 (cheapest_v _ _) ho570
    refine n_iload dL_law_573 11 rfl ?_
    refine n_neF (tgt := 594) dL_law_575 (by decide) (by rw [e570, e562]; exact s1.1) ?_
    refine n_iload dL_law_578 11 rfl ?_
    refine n_if_lt (tgt := 596) dL_law_580 (by decide) (by omega) (fun h580 => ?_) (fun h580 => ?_)
    · refine n_top (lv' := [(0, _), (1, _), (2, _), (3, _), (4, _), (5, _), (6, _), (7, _), (8, _), (9, _), (10, _)]) 11 rfl ?_
      exact lw_596 hap hB (e468.trans k1) qN570
    · refine n_aload_n dL_law_583 1 rfl rfl ?_
      refine n_callGi (i := 0) (as := []) dL_law_584 lvL_93 rfl rfl ⟨rfl, rfl⟩ hap rfl (x_asked qN570.1.1) (fun _ _ => rfl) rfl rfl rfl ⟨Nat.le_of_ble_eq_true rfl, Nat.le_of_ble_eq_true rfl⟩ ?_
      refine n_aload_n dL_law_587 2 rfl rfl ?_
      refine n_callGi (i := 1) (as := []) dL_law_588 lvL_93 rfl rfl ⟨rfl, rfl⟩ hap rfl (x_asked qN570.1.2) (fun _ _ => rfl) rfl rfl rfl ⟨Nat.le_of_ble_eq_true rfl, Nat.le_of_ble_eq_true rfl⟩ ?_
      refine n_eqT (tgt := 596) dL_law_591 (by decide) ((s1.2 (by rw [← e562]; omega)).symm) ?_
      refine n_top (lv' := [(0, _), (1, _), (2, _), (3, _), (4, _), (5, _), (6, _), (7, _), (8, _), (9, _), (10, _)]) 11 rfl ?_
      exact lw_596 hap hB (e468.trans k1) qN570
end
