/-! ===== THE LAW: the cases 1 ===== -/
theorem l_case10 (w : XW) {L0 : Nat} {xs : Nat → Int32} (hL0 : L0 ≤ 2560) (P : Option Value → XH → Prop) {c : Nat} {h : XH} (hi : INV c h) (hc : 5 * c + 5 ≤ L0) (kk : ∀ h', INV (c + 1) h' → AZ (ZL w L0 xs) w M_L_law 118 19112 1377 [.retAddr 0, .ref 0, .ref 87, .int (nI (5 * c))] [] h' P) : AZ (ZL w L0 xs) w M_L_law 118 19112 551 [.retAddr 0, .ref 0, .ref 87, .int (nI (5 * c))] [] h P := by
  obtain ⟨hn, s, o, a, b, C, M0, Lv, Tr, Im⟩ := hi
  obtain ⟨x1, ex1⟩ : ∃ z, z = xs (5 * c + 1) := ⟨_, rfl⟩
  obtain ⟨x2, ex2⟩ : ∃ z, z = xs (5 * c + 2) := ⟨_, rfl⟩
  obtain ⟨x3, ex3⟩ : ∃ z, z = xs (5 * c + 3) := ⟨_, rfl⟩
  refine AZ.aload_n (pc := 551) dL_law_551 rfl ?_
  refine AZ.sload (pc := 552) dL_law_552 rfl ?_
  refine AZ.iload_n (pc := 553) dL_law_553 rfl ?_
  refine AZ.iconst (pc := 554) (v := nI 1) dL_law_554 (by decide) ?_
  refine AZ.iaddN (pc := 555) (c := 5 * c + 1) dL_law_555 rfl ?_
  refine AZ.sld (pc := 556) (i := 5 * c + 1) (by omega) hL0 dL_law_556 ?_
  rw [← ex1]
  refine AZ.sload (pc := 557) dL_law_557 rfl ?_
  refine AZ.iload_n (pc := 558) dL_law_558 rfl ?_
  refine AZ.iconst (pc := 559) (v := nI 2) dL_law_559 (by decide) ?_
  refine AZ.iaddN (pc := 560) (c := 5 * c + 2) dL_law_560 rfl ?_
  refine AZ.sld (pc := 561) (i := 5 * c + 2) (by omega) hL0 dL_law_561 ?_
  rw [← ex2]
  refine AZ.sload (pc := 562) dL_law_562 rfl ?_
  refine AZ.iload_n (pc := 563) dL_law_563 rfl ?_
  refine AZ.iconst (pc := 564) (v := nI 3) dL_law_564 (by decide) ?_
  refine AZ.iaddN (pc := 565) (c := 5 * c + 3) dL_law_565 rfl ?_
  refine AZ.sld (pc := 566) (i := 5 * c + 3) (by omega) hL0 dL_law_566 ?_
  rw [← ex3]
  refine AZ.callV (pc := 567) (M2 := M_X11_chance) (As := [.int x1, .int x2, .int x3]) (rest := []) (c_chance w h C x1 x2 x3) ⟨xc_L_law__X11_chance.1, xc_L_law__X11_chance.2.1, xc_L_law__X11_chance.2.2.1, Nat.le_of_ble_eq_true rfl, Nat.le_of_ble_eq_true rfl⟩ gL_law_X11_chance (ci := 10) rfl (lt_k hn (by omega)) C.dm rfl (Nat.le_of_ble_eq_true rfl) dL_law_567 ?_
  rintro _ h1 ⟨rfl, s1, C1⟩
  have M1 : MS h1 s := M0.far s1 s1.cl
  have n1 := s1.le hn
  obtain ⟨vv1, O1, -⟩ := id M1.ob
  show AZ (ZL w L0 xs) w M_L_law 118 19112 570 [.retAddr 0, .ref 0, .ref 87, .int (nI (5 * c))] (_ :: []) _ _
  refine AZ.aload_n (pc := 570) dL_law_570 rfl ?_
  refine AZ.sload (pc := 571) dL_law_571 rfl ?_
  refine AZ.iload_n (pc := 572) dL_law_572 rfl ?_
  refine AZ.iconst (pc := 573) (v := nI 1) dL_law_573 (by decide) ?_
  refine AZ.iaddN (pc := 574) (c := 5 * c + 1) dL_law_574 rfl ?_
  refine AZ.sld (pc := 575) (i := 5 * c + 1) (by omega) hL0 dL_law_575 ?_
  rw [← ex1]
  refine AZ.sload (pc := 576) dL_law_576 rfl ?_
  refine AZ.iload_n (pc := 577) dL_law_577 rfl ?_
  refine AZ.iconst (pc := 578) (v := nI 2) dL_law_578 (by decide) ?_
  refine AZ.iaddN (pc := 579) (c := 5 * c + 2) dL_law_579 rfl ?_
  refine AZ.sld (pc := 580) (i := 5 * c + 2) (by omega) hL0 dL_law_580 ?_
  rw [← ex2]
  refine AZ.sload (pc := 581) dL_law_581 rfl ?_
  refine AZ.iload_n (pc := 582) dL_law_582 rfl ?_
  refine AZ.iconst (pc := 583) (v := nI 3) dL_law_583 (by decide) ?_
  refine AZ.iaddN (pc := 584) (c := 5 * c + 3) dL_law_584 rfl ?_
  refine AZ.sld (pc := 585) (i := 5 * c + 3) (by omega) hL0 dL_law_585 ?_
  rw [← ex3]
  refine AZ.callV (pc := 586) (M2 := M_X12_chance) (As := [.int x1, .int x2, .int x3]) (rest := [_]) (c_mChance w h1 M1 Lv x1 x2 x3) ⟨xc_L_law__X12_chance.1, xc_L_law__X12_chance.2.1, xc_L_law__X12_chance.2.2.1, Nat.le_of_ble_eq_true rfl, Nat.le_of_ble_eq_true rfl⟩ gL_law_X12_chance (ci := 11) rfl (lt_k n1 (by omega)) O1 rfl (Nat.le_of_ble_eq_true rfl) dL_law_586 ?_
  rintro _ h2 ⟨rfl, s2, M2⟩
  have C2 := C1.far s2 s2.md
  have n2 := s2.le n1
  show AZ (ZL w L0 xs) w M_L_law 118 19112 589 [.retAddr 0, .ref 0, .ref 87, .int (nI (5 * c))] (_ :: _ :: []) _ _
  refine AZ.lcmp (pc := 589) dL_law_589 ?_
  refine AZ.if_eq (pc := 590) (tgt := 1377) dL_law_590 (by decide) (fun _ => ?_) (fun q => absurd (lg_same _) q)
  exact kk h2 ⟨n2, s, o, a, b, C2, M2, Lv.more (by omega), Tr, fun q => (Im q).imp fun _ z => z.imp fun _ z => z.imp fun _ z => z.more (by omega)⟩
theorem l_case11 (w : XW) {L0 : Nat} {xs : Nat → Int32} (hL0 : L0 ≤ 2560) (P : Option Value → XH → Prop) {c : Nat} {h : XH} (hi : INV c h) (hc : 5 * c + 5 ≤ L0) (kk : ∀ h', INV (c + 1) h' → AZ (ZL w L0 xs) w M_L_law 118 19112 1377 [.retAddr 0, .ref 0, .ref 87, .int (nI (5 * c))] [] h' P) : AZ (ZL w L0 xs) w M_L_law 118 19112 595 [.retAddr 0, .ref 0, .ref 87, .int (nI (5 * c))] [] h P := by
  obtain ⟨hn, s, o, a, b, C, M0, Lv, Tr, Im⟩ := hi
  obtain ⟨x1, ex1⟩ : ∃ z, z = xs (5 * c + 1) := ⟨_, rfl⟩
  obtain ⟨x2, ex2⟩ : ∃ z, z = xs (5 * c + 2) := ⟨_, rfl⟩
  obtain ⟨x3, ex3⟩ : ∃ z, z = xs (5 * c + 3) := ⟨_, rfl⟩
  refine AZ.aload_n (pc := 595) dL_law_595 rfl ?_
  refine AZ.sload (pc := 596) dL_law_596 rfl ?_
  refine AZ.iload_n (pc := 597) dL_law_597 rfl ?_
  refine AZ.iconst (pc := 598) (v := nI 1) dL_law_598 (by decide) ?_
  refine AZ.iaddN (pc := 599) (c := 5 * c + 1) dL_law_599 rfl ?_
  refine AZ.sld (pc := 600) (i := 5 * c + 1) (by omega) hL0 dL_law_600 ?_
  rw [← ex1]
  refine AZ.sload (pc := 601) dL_law_601 rfl ?_
  refine AZ.iload_n (pc := 602) dL_law_602 rfl ?_
  refine AZ.iconst (pc := 603) (v := nI 2) dL_law_603 (by decide) ?_
  refine AZ.iaddN (pc := 604) (c := 5 * c + 2) dL_law_604 rfl ?_
  refine AZ.sld (pc := 605) (i := 5 * c + 2) (by omega) hL0 dL_law_605 ?_
  rw [← ex2]
  refine AZ.sload (pc := 606) dL_law_606 rfl ?_
  refine AZ.iload_n (pc := 607) dL_law_607 rfl ?_
  refine AZ.iconst (pc := 608) (v := nI 3) dL_law_608 (by decide) ?_
  refine AZ.iaddN (pc := 609) (c := 5 * c + 3) dL_law_609 rfl ?_
  refine AZ.sld (pc := 610) (i := 5 * c + 3) (by omega) hL0 dL_law_610 ?_
  rw [← ex3]
  refine AZ.callV (pc := 611) (M2 := M_X11_chanceAim) (As := [.int x1, .int x2, .int x3]) (rest := []) (c_chanceAim w h C x1 x2 x3) ⟨xc_L_law__X11_chanceAim.1, xc_L_law__X11_chanceAim.2.1, xc_L_law__X11_chanceAim.2.2.1, Nat.le_of_ble_eq_true rfl, Nat.le_of_ble_eq_true rfl⟩ gL_law_X11_chanceAim (ci := 10) rfl (lt_k hn (by omega)) C.dm rfl (Nat.le_of_ble_eq_true rfl) dL_law_611 ?_
  rintro _ h1 ⟨rfl, s1, C1⟩
  have M1 : MS h1 s := M0.far s1 s1.cl
  have n1 := s1.le hn
  obtain ⟨vv1, O1, -⟩ := id M1.ob
  show AZ (ZL w L0 xs) w M_L_law 118 19112 614 [.retAddr 0, .ref 0, .ref 87, .int (nI (5 * c))] (_ :: []) _ _
  refine AZ.aload_n (pc := 614) dL_law_614 rfl ?_
  refine AZ.sload (pc := 615) dL_law_615 rfl ?_
  refine AZ.iload_n (pc := 616) dL_law_616 rfl ?_
  refine AZ.iconst (pc := 617) (v := nI 1) dL_law_617 (by decide) ?_
  refine AZ.iaddN (pc := 618) (c := 5 * c + 1) dL_law_618 rfl ?_
  refine AZ.sld (pc := 619) (i := 5 * c + 1) (by omega) hL0 dL_law_619 ?_
  rw [← ex1]
  refine AZ.sload (pc := 620) dL_law_620 rfl ?_
  refine AZ.iload_n (pc := 621) dL_law_621 rfl ?_
  refine AZ.iconst (pc := 622) (v := nI 2) dL_law_622 (by decide) ?_
  refine AZ.iaddN (pc := 623) (c := 5 * c + 2) dL_law_623 rfl ?_
  refine AZ.sld (pc := 624) (i := 5 * c + 2) (by omega) hL0 dL_law_624 ?_
  rw [← ex2]
  refine AZ.sload (pc := 625) dL_law_625 rfl ?_
  refine AZ.iload_n (pc := 626) dL_law_626 rfl ?_
  refine AZ.iconst (pc := 627) (v := nI 3) dL_law_627 (by decide) ?_
  refine AZ.iaddN (pc := 628) (c := 5 * c + 3) dL_law_628 rfl ?_
  refine AZ.sld (pc := 629) (i := 5 * c + 3) (by omega) hL0 dL_law_629 ?_
  rw [← ex3]
  refine AZ.callV (pc := 630) (M2 := M_X12_chanceAim) (As := [.int x1, .int x2, .int x3]) (rest := [_]) (c_mChAim w h1 M1 Lv x1 x2 x3) ⟨xc_L_law__X12_chanceAim.1, xc_L_law__X12_chanceAim.2.1, xc_L_law__X12_chanceAim.2.2.1, Nat.le_of_ble_eq_true rfl, Nat.le_of_ble_eq_true rfl⟩ gL_law_X12_chanceAim (ci := 11) rfl (lt_k n1 (by omega)) O1 rfl (Nat.le_of_ble_eq_true rfl) dL_law_630 ?_
  rintro _ h2 ⟨rfl, s2, M2⟩
  have C2 := C1.far s2 s2.md
  have n2 := s2.le n1
  show AZ (ZL w L0 xs) w M_L_law 118 19112 633 [.retAddr 0, .ref 0, .ref 87, .int (nI (5 * c))] (_ :: _ :: []) _ _
  refine AZ.icmp_eq (pc := 633) (tgt := 1377) dL_law_633 (by decide) (fun _ => ?_) (fun q => absurd rfl q)
  exact kk h2 ⟨n2, s, o, a, b, C2, M2, Lv.more (by omega), Tr, fun q => (Im q).imp fun _ z => z.imp fun _ z => z.imp fun _ z => z.more (by omega)⟩
theorem l_case12 (w : XW) {L0 : Nat} {xs : Nat → Int32} (hL0 : L0 ≤ 2560) (P : Option Value → XH → Prop) {c : Nat} {h : XH} (hi : INV c h) (hc : 5 * c + 5 ≤ L0) (kk : ∀ h', INV (c + 1) h' → AZ (ZL w L0 xs) w M_L_law 118 19112 1377 [.retAddr 0, .ref 0, .ref 87, .int (nI (5 * c))] [] h' P) : AZ (ZL w L0 xs) w M_L_law 118 19112 638 [.retAddr 0, .ref 0, .ref 87, .int (nI (5 * c))] [] h P := by
  obtain ⟨hn, s, o, a, b, C, M0, Lv, Tr, Im⟩ := hi
  obtain ⟨x1, ex1⟩ : ∃ z, z = xs (5 * c + 1) := ⟨_, rfl⟩
  obtain ⟨x2, ex2⟩ : ∃ z, z = xs (5 * c + 2) := ⟨_, rfl⟩
  obtain ⟨x3, ex3⟩ : ∃ z, z = xs (5 * c + 3) := ⟨_, rfl⟩
  refine AZ.aload_n (pc := 638) dL_law_638 rfl ?_
  refine AZ.sload (pc := 639) dL_law_639 rfl ?_
  refine AZ.iload_n (pc := 640) dL_law_640 rfl ?_
  refine AZ.iconst (pc := 641) (v := nI 1) dL_law_641 (by decide) ?_
  refine AZ.iaddN (pc := 642) (c := 5 * c + 1) dL_law_642 rfl ?_
  refine AZ.sld (pc := 643) (i := 5 * c + 1) (by omega) hL0 dL_law_643 ?_
  rw [← ex1]
  refine AZ.sload (pc := 644) dL_law_644 rfl ?_
  refine AZ.iload_n (pc := 645) dL_law_645 rfl ?_
  refine AZ.iconst (pc := 646) (v := nI 2) dL_law_646 (by decide) ?_
  refine AZ.iaddN (pc := 647) (c := 5 * c + 2) dL_law_647 rfl ?_
  refine AZ.sld (pc := 648) (i := 5 * c + 2) (by omega) hL0 dL_law_648 ?_
  rw [← ex2]
  refine AZ.sload (pc := 649) dL_law_649 rfl ?_
  refine AZ.iload_n (pc := 650) dL_law_650 rfl ?_
  refine AZ.iconst (pc := 651) (v := nI 3) dL_law_651 (by decide) ?_
  refine AZ.iaddN (pc := 652) (c := 5 * c + 3) dL_law_652 rfl ?_
  refine AZ.sld (pc := 653) (i := 5 * c + 3) (by omega) hL0 dL_law_653 ?_
  rw [← ex3]
  refine AZ.callV (pc := 654) (M2 := M_X11_race) (As := [.int x1, .int x2, .int x3]) (rest := []) (c_race w h C x1 x2 x3) ⟨xc_L_law__X11_race.1, xc_L_law__X11_race.2.1, xc_L_law__X11_race.2.2.1, Nat.le_of_ble_eq_true rfl, Nat.le_of_ble_eq_true rfl⟩ gL_law_X11_race (ci := 10) rfl (lt_k hn (by omega)) C.dm rfl (Nat.le_of_ble_eq_true rfl) dL_law_654 ?_
  rintro _ h1 ⟨rfl, s1, C1⟩
  have M1 : MS h1 s := M0.far s1 s1.cl
  have n1 := s1.le hn
  obtain ⟨vv1, O1, -⟩ := id M1.ob
  show AZ (ZL w L0 xs) w M_L_law 118 19112 657 [.retAddr 0, .ref 0, .ref 87, .int (nI (5 * c))] (_ :: []) _ _
  refine AZ.aload_n (pc := 657) dL_law_657 rfl ?_
  refine AZ.sload (pc := 658) dL_law_658 rfl ?_
  refine AZ.iload_n (pc := 659) dL_law_659 rfl ?_
  refine AZ.iconst (pc := 660) (v := nI 1) dL_law_660 (by decide) ?_
  refine AZ.iaddN (pc := 661) (c := 5 * c + 1) dL_law_661 rfl ?_
  refine AZ.sld (pc := 662) (i := 5 * c + 1) (by omega) hL0 dL_law_662 ?_
  rw [← ex1]
  refine AZ.sload (pc := 663) dL_law_663 rfl ?_
  refine AZ.iload_n (pc := 664) dL_law_664 rfl ?_
  refine AZ.iconst (pc := 665) (v := nI 2) dL_law_665 (by decide) ?_
  refine AZ.iaddN (pc := 666) (c := 5 * c + 2) dL_law_666 rfl ?_
  refine AZ.sld (pc := 667) (i := 5 * c + 2) (by omega) hL0 dL_law_667 ?_
  rw [← ex2]
  refine AZ.sload (pc := 668) dL_law_668 rfl ?_
  refine AZ.iload_n (pc := 669) dL_law_669 rfl ?_
  refine AZ.iconst (pc := 670) (v := nI 3) dL_law_670 (by decide) ?_
  refine AZ.iaddN (pc := 671) (c := 5 * c + 3) dL_law_671 rfl ?_
  refine AZ.sld (pc := 672) (i := 5 * c + 3) (by omega) hL0 dL_law_672 ?_
  rw [← ex3]
  refine AZ.callV (pc := 673) (M2 := M_X12_race) (As := [.int x1, .int x2, .int x3]) (rest := [_]) (c_mRace w h1 M1 Lv x1 x2 x3) ⟨xc_L_law__X12_race.1, xc_L_law__X12_race.2.1, xc_L_law__X12_race.2.2.1, Nat.le_of_ble_eq_true rfl, Nat.le_of_ble_eq_true rfl⟩ gL_law_X12_race (ci := 11) rfl (lt_k n1 (by omega)) O1 rfl (Nat.le_of_ble_eq_true rfl) dL_law_673 ?_
  rintro _ h2 ⟨rfl, s2, M2⟩
  have C2 := C1.far s2 s2.md
  have n2 := s2.le n1
  show AZ (ZL w L0 xs) w M_L_law 118 19112 676 [.retAddr 0, .ref 0, .ref 87, .int (nI (5 * c))] (_ :: _ :: []) _ _
  refine AZ.lcmp (pc := 676) dL_law_676 ?_
  refine AZ.if_eq (pc := 677) (tgt := 1377) dL_law_677 (by decide) (fun _ => ?_) (fun q => absurd (lg_same _) q)
  exact kk h2 ⟨n2, s, o, a, b, C2, M2, Lv.more (by omega), Tr, fun q => (Im q).imp fun _ z => z.imp fun _ z => z.imp fun _ z => z.more (by omega)⟩
theorem l_case13 (w : XW) {L0 : Nat} {xs : Nat → Int32} (hL0 : L0 ≤ 2560) (P : Option Value → XH → Prop) {c : Nat} {h : XH} (hi : INV c h) (hc : 5 * c + 5 ≤ L0) (kk : ∀ h', INV (c + 1) h' → AZ (ZL w L0 xs) w M_L_law 118 19112 1377 [.retAddr 0, .ref 0, .ref 87, .int (nI (5 * c))] [] h' P) : AZ (ZL w L0 xs) w M_L_law 118 19112 682 [.retAddr 0, .ref 0, .ref 87, .int (nI (5 * c))] [] h P := by
  obtain ⟨hn, s, o, a, b, C, M0, Lv, Tr, Im⟩ := hi
  obtain ⟨x1, ex1⟩ : ∃ z, z = xs (5 * c + 1) := ⟨_, rfl⟩
  obtain ⟨x2, ex2⟩ : ∃ z, z = xs (5 * c + 2) := ⟨_, rfl⟩
  obtain ⟨x3, ex3⟩ : ∃ z, z = xs (5 * c + 3) := ⟨_, rfl⟩
  refine AZ.aload_n (pc := 682) dL_law_682 rfl ?_
  refine AZ.sload (pc := 683) dL_law_683 rfl ?_
  refine AZ.iload_n (pc := 684) dL_law_684 rfl ?_
  refine AZ.iconst (pc := 685) (v := nI 1) dL_law_685 (by decide) ?_
  refine AZ.iaddN (pc := 686) (c := 5 * c + 1) dL_law_686 rfl ?_
  refine AZ.sld (pc := 687) (i := 5 * c + 1) (by omega) hL0 dL_law_687 ?_
  rw [← ex1]
  refine AZ.sload (pc := 688) dL_law_688 rfl ?_
  refine AZ.iload_n (pc := 689) dL_law_689 rfl ?_
  refine AZ.iconst (pc := 690) (v := nI 2) dL_law_690 (by decide) ?_
  refine AZ.iaddN (pc := 691) (c := 5 * c + 2) dL_law_691 rfl ?_
  refine AZ.sld (pc := 692) (i := 5 * c + 2) (by omega) hL0 dL_law_692 ?_
  rw [← ex2]
  refine AZ.sload (pc := 693) dL_law_693 rfl ?_
  refine AZ.iload_n (pc := 694) dL_law_694 rfl ?_
  refine AZ.iconst (pc := 695) (v := nI 3) dL_law_695 (by decide) ?_
  refine AZ.iaddN (pc := 696) (c := 5 * c + 3) dL_law_696 rfl ?_
  refine AZ.sld (pc := 697) (i := 5 * c + 3) (by omega) hL0 dL_law_697 ?_
  rw [← ex3]
  refine AZ.callV (pc := 698) (M2 := M_X11_raceAim) (As := [.int x1, .int x2, .int x3]) (rest := []) (c_raceAim w h C x1 x2 x3) ⟨xc_L_law__X11_raceAim.1, xc_L_law__X11_raceAim.2.1, xc_L_law__X11_raceAim.2.2.1, Nat.le_of_ble_eq_true rfl, Nat.le_of_ble_eq_true rfl⟩ gL_law_X11_raceAim (ci := 10) rfl (lt_k hn (by omega)) C.dm rfl (Nat.le_of_ble_eq_true rfl) dL_law_698 ?_
  rintro _ h1 ⟨rfl, s1, C1⟩
  have M1 : MS h1 s := M0.far s1 s1.cl
  have n1 := s1.le hn
  obtain ⟨vv1, O1, -⟩ := id M1.ob
  show AZ (ZL w L0 xs) w M_L_law 118 19112 701 [.retAddr 0, .ref 0, .ref 87, .int (nI (5 * c))] (_ :: []) _ _
  refine AZ.aload_n (pc := 701) dL_law_701 rfl ?_
  refine AZ.sload (pc := 702) dL_law_702 rfl ?_
  refine AZ.iload_n (pc := 703) dL_law_703 rfl ?_
  refine AZ.iconst (pc := 704) (v := nI 1) dL_law_704 (by decide) ?_
  refine AZ.iaddN (pc := 705) (c := 5 * c + 1) dL_law_705 rfl ?_
  refine AZ.sld (pc := 706) (i := 5 * c + 1) (by omega) hL0 dL_law_706 ?_
  rw [← ex1]
  refine AZ.sload (pc := 707) dL_law_707 rfl ?_
  refine AZ.iload_n (pc := 708) dL_law_708 rfl ?_
  refine AZ.iconst (pc := 709) (v := nI 2) dL_law_709 (by decide) ?_
  refine AZ.iaddN (pc := 710) (c := 5 * c + 2) dL_law_710 rfl ?_
  refine AZ.sld (pc := 711) (i := 5 * c + 2) (by omega) hL0 dL_law_711 ?_
  rw [← ex2]
  refine AZ.sload (pc := 712) dL_law_712 rfl ?_
  refine AZ.iload_n (pc := 713) dL_law_713 rfl ?_
  refine AZ.iconst (pc := 714) (v := nI 3) dL_law_714 (by decide) ?_
  refine AZ.iaddN (pc := 715) (c := 5 * c + 3) dL_law_715 rfl ?_
  refine AZ.sld (pc := 716) (i := 5 * c + 3) (by omega) hL0 dL_law_716 ?_
  rw [← ex3]
  refine AZ.callV (pc := 717) (M2 := M_X12_raceAim) (As := [.int x1, .int x2, .int x3]) (rest := [_]) (c_mRAim w h1 M1 Lv x1 x2 x3) ⟨xc_L_law__X12_raceAim.1, xc_L_law__X12_raceAim.2.1, xc_L_law__X12_raceAim.2.2.1, Nat.le_of_ble_eq_true rfl, Nat.le_of_ble_eq_true rfl⟩ gL_law_X12_raceAim (ci := 11) rfl (lt_k n1 (by omega)) O1 rfl (Nat.le_of_ble_eq_true rfl) dL_law_717 ?_
  rintro _ h2 ⟨rfl, s2, M2⟩
  have C2 := C1.far s2 s2.md
  have n2 := s2.le n1
  show AZ (ZL w L0 xs) w M_L_law 118 19112 720 [.retAddr 0, .ref 0, .ref 87, .int (nI (5 * c))] (_ :: _ :: []) _ _
  refine AZ.icmp_eq (pc := 720) (tgt := 1377) dL_law_720 (by decide) (fun _ => ?_) (fun q => absurd rfl q)
  exact kk h2 ⟨n2, s, o, a, b, C2, M2, Lv.more (by omega), Tr, fun q => (Im q).imp fun _ z => z.imp fun _ z => z.imp fun _ z => z.more (by omega)⟩
theorem l_case14 (w : XW) {L0 : Nat} {xs : Nat → Int32} (hL0 : L0 ≤ 2560) (P : Option Value → XH → Prop) {c : Nat} {h : XH} (hi : INV c h) (hc : 5 * c + 5 ≤ L0) (kk : ∀ h', INV (c + 1) h' → AZ (ZL w L0 xs) w M_L_law 118 19112 1377 [.retAddr 0, .ref 0, .ref 87, .int (nI (5 * c))] [] h' P) : AZ (ZL w L0 xs) w M_L_law 118 19112 725 [.retAddr 0, .ref 0, .ref 87, .int (nI (5 * c))] [] h P := by
  obtain ⟨hn, s, o, a, b, C, M0, Lv, Tr, Im⟩ := hi
  obtain ⟨x1, ex1⟩ : ∃ z, z = xs (5 * c + 1) := ⟨_, rfl⟩
  obtain ⟨x2, ex2⟩ : ∃ z, z = xs (5 * c + 2) := ⟨_, rfl⟩
  refine AZ.aload_n (pc := 725) dL_law_725 rfl ?_
  refine AZ.sload (pc := 726) dL_law_726 rfl ?_
  refine AZ.iload_n (pc := 727) dL_law_727 rfl ?_
  refine AZ.iconst (pc := 728) (v := nI 1) dL_law_728 (by decide) ?_
  refine AZ.iaddN (pc := 729) (c := 5 * c + 1) dL_law_729 rfl ?_
  refine AZ.sld (pc := 730) (i := 5 * c + 1) (by omega) hL0 dL_law_730 ?_
  rw [← ex1]
  refine AZ.sload (pc := 731) dL_law_731 rfl ?_
  refine AZ.iload_n (pc := 732) dL_law_732 rfl ?_
  refine AZ.iconst (pc := 733) (v := nI 2) dL_law_733 (by decide) ?_
  refine AZ.iaddN (pc := 734) (c := 5 * c + 2) dL_law_734 rfl ?_
  refine AZ.sld (pc := 735) (i := 5 * c + 2) (by omega) hL0 dL_law_735 ?_
  rw [← ex2]
  refine AZ.callV (pc := 736) (M2 := M_X11_settled) (As := [.int x1, .int x2]) (rest := []) (c_settled w h C x1 x2) ⟨xc_L_law__X11_settled.1, xc_L_law__X11_settled.2.1, xc_L_law__X11_settled.2.2.1, Nat.le_of_ble_eq_true rfl, Nat.le_of_ble_eq_true rfl⟩ gL_law_X11_settled (ci := 10) rfl (lt_k hn (by omega)) C.dm rfl (Nat.le_of_ble_eq_true rfl) dL_law_736 ?_
  rintro _ h1 ⟨rfl, s1, C1⟩
  have M1 : MS h1 s := M0.far s1 s1.cl
  have n1 := s1.le hn
  obtain ⟨vv1, O1, -⟩ := id M1.ob
  show AZ (ZL w L0 xs) w M_L_law 118 19112 739 [.retAddr 0, .ref 0, .ref 87, .int (nI (5 * c))] (_ :: []) _ _
  refine AZ.aload_n (pc := 739) dL_law_739 rfl ?_
  refine AZ.sload (pc := 740) dL_law_740 rfl ?_
  refine AZ.iload_n (pc := 741) dL_law_741 rfl ?_
  refine AZ.iconst (pc := 742) (v := nI 1) dL_law_742 (by decide) ?_
  refine AZ.iaddN (pc := 743) (c := 5 * c + 1) dL_law_743 rfl ?_
  refine AZ.sld (pc := 744) (i := 5 * c + 1) (by omega) hL0 dL_law_744 ?_
  rw [← ex1]
  refine AZ.sload (pc := 745) dL_law_745 rfl ?_
  refine AZ.iload_n (pc := 746) dL_law_746 rfl ?_
  refine AZ.iconst (pc := 747) (v := nI 2) dL_law_747 (by decide) ?_
  refine AZ.iaddN (pc := 748) (c := 5 * c + 2) dL_law_748 rfl ?_
  refine AZ.sld (pc := 749) (i := 5 * c + 2) (by omega) hL0 dL_law_749 ?_
  rw [← ex2]
  refine AZ.callV (pc := 750) (M2 := M_X12_settled) (As := [.int x1, .int x2]) (rest := [_]) (c_mStill w h1 M1 Lv x1 x2) ⟨xc_L_law__X12_settled.1, xc_L_law__X12_settled.2.1, xc_L_law__X12_settled.2.2.1, Nat.le_of_ble_eq_true rfl, Nat.le_of_ble_eq_true rfl⟩ gL_law_X12_settled (ci := 11) rfl (lt_k n1 (by omega)) O1 rfl (Nat.le_of_ble_eq_true rfl) dL_law_750 ?_
  rintro _ h2 ⟨rfl, s2, M2⟩
  have C2 := C1.far s2 s2.md
  have n2 := s2.le n1
  show AZ (ZL w L0 xs) w M_L_law 118 19112 753 [.retAddr 0, .ref 0, .ref 87, .int (nI (5 * c))] (_ :: _ :: []) _ _
  refine AZ.icmp_eq (pc := 753) (tgt := 1377) dL_law_753 (by decide) (fun _ => ?_) (fun q => absurd rfl q)
  exact kk h2 ⟨n2, s, o, a, b, C2, M2, Lv.more (by omega), Tr, fun q => (Im q).imp fun _ z => z.imp fun _ z => z.imp fun _ z => z.more (by omega)⟩
theorem l_case15 (w : XW) {L0 : Nat} {xs : Nat → Int32} (hL0 : L0 ≤ 2560) (P : Option Value → XH → Prop) {c : Nat} {h : XH} (hi : INV c h) (hc : 5 * c + 5 ≤ L0) (kk : ∀ h', INV (c + 1) h' → AZ (ZL w L0 xs) w M_L_law 118 19112 1377 [.retAddr 0, .ref 0, .ref 87, .int (nI (5 * c))] [] h' P) : AZ (ZL w L0 xs) w M_L_law 118 19112 758 [.retAddr 0, .ref 0, .ref 87, .int (nI (5 * c))] [] h P := by
  obtain ⟨hn, s, o, a, b, C, M0, Lv, Tr, Im⟩ := hi
  obtain ⟨x1, ex1⟩ : ∃ z, z = xs (5 * c + 1) := ⟨_, rfl⟩
  obtain ⟨x2, ex2⟩ : ∃ z, z = xs (5 * c + 2) := ⟨_, rfl⟩
  refine AZ.aload_n (pc := 758) dL_law_758 rfl ?_
  refine AZ.sload (pc := 759) dL_law_759 rfl ?_
  refine AZ.iload_n (pc := 760) dL_law_760 rfl ?_
  refine AZ.iconst (pc := 761) (v := nI 1) dL_law_761 (by decide) ?_
  refine AZ.iaddN (pc := 762) (c := 5 * c + 1) dL_law_762 rfl ?_
  refine AZ.sld (pc := 763) (i := 5 * c + 1) (by omega) hL0 dL_law_763 ?_
  rw [← ex1]
  refine AZ.sload (pc := 764) dL_law_764 rfl ?_
  refine AZ.iload_n (pc := 765) dL_law_765 rfl ?_
  refine AZ.iconst (pc := 766) (v := nI 2) dL_law_766 (by decide) ?_
  refine AZ.iaddN (pc := 767) (c := 5 * c + 2) dL_law_767 rfl ?_
  refine AZ.sld (pc := 768) (i := 5 * c + 2) (by omega) hL0 dL_law_768 ?_
  rw [← ex2]
  refine AZ.callV (pc := 769) (M2 := M_X11_percent) (As := [.int x1, .int x2]) (rest := []) (c_percent w h C x1 x2) ⟨xc_L_law__X11_percent.1, xc_L_law__X11_percent.2.1, xc_L_law__X11_percent.2.2.1, Nat.le_of_ble_eq_true rfl, Nat.le_of_ble_eq_true rfl⟩ gL_law_X11_percent (ci := 10) rfl (lt_k hn (by omega)) C.dm rfl (Nat.le_of_ble_eq_true rfl) dL_law_769 ?_
  rintro _ h1 ⟨rfl, s1, C1⟩
  have M1 : MS h1 s := M0.far s1 s1.cl
  have n1 := s1.le hn
  obtain ⟨vv1, O1, -⟩ := id M1.ob
  show AZ (ZL w L0 xs) w M_L_law 118 19112 772 [.retAddr 0, .ref 0, .ref 87, .int (nI (5 * c))] (_ :: []) _ _
  refine AZ.aload_n (pc := 772) dL_law_772 rfl ?_
  refine AZ.sload (pc := 773) dL_law_773 rfl ?_
  refine AZ.iload_n (pc := 774) dL_law_774 rfl ?_
  refine AZ.iconst (pc := 775) (v := nI 1) dL_law_775 (by decide) ?_
  refine AZ.iaddN (pc := 776) (c := 5 * c + 1) dL_law_776 rfl ?_
  refine AZ.sld (pc := 777) (i := 5 * c + 1) (by omega) hL0 dL_law_777 ?_
  rw [← ex1]
  refine AZ.sload (pc := 778) dL_law_778 rfl ?_
  refine AZ.iload_n (pc := 779) dL_law_779 rfl ?_
  refine AZ.iconst (pc := 780) (v := nI 2) dL_law_780 (by decide) ?_
  refine AZ.iaddN (pc := 781) (c := 5 * c + 2) dL_law_781 rfl ?_
  refine AZ.sld (pc := 782) (i := 5 * c + 2) (by omega) hL0 dL_law_782 ?_
  rw [← ex2]
  refine AZ.callV (pc := 783) (M2 := M_X12_percent) (As := [.int x1, .int x2]) (rest := [_]) (c_mPerc w h1 M1 Lv x1 x2) ⟨xc_L_law__X12_percent.1, xc_L_law__X12_percent.2.1, xc_L_law__X12_percent.2.2.1, Nat.le_of_ble_eq_true rfl, Nat.le_of_ble_eq_true rfl⟩ gL_law_X12_percent (ci := 11) rfl (lt_k n1 (by omega)) O1 rfl (Nat.le_of_ble_eq_true rfl) dL_law_783 ?_
  rintro _ h2 ⟨rfl, s2, M2⟩
  have C2 := C1.far s2 s2.md
  have n2 := s2.le n1
  show AZ (ZL w L0 xs) w M_L_law 118 19112 786 [.retAddr 0, .ref 0, .ref 87, .int (nI (5 * c))] (_ :: _ :: []) _ _
  refine AZ.icmp_eq (pc := 786) (tgt := 1377) dL_law_786 (by decide) (fun _ => ?_) (fun q => absurd rfl q)
  exact kk h2 ⟨n2, s, o, a, b, C2, M2, Lv.more (by omega), Tr, fun q => (Im q).imp fun _ z => z.imp fun _ z => z.imp fun _ z => z.more (by omega)⟩
theorem l_case16 (w : XW) {L0 : Nat} {xs : Nat → Int32} (hL0 : L0 ≤ 2560) (P : Option Value → XH → Prop) {c : Nat} {h : XH} (hi : INV c h) (hc : 5 * c + 5 ≤ L0) (kk : ∀ h', INV (c + 1) h' → AZ (ZL w L0 xs) w M_L_law 118 19112 1377 [.retAddr 0, .ref 0, .ref 87, .int (nI (5 * c))] [] h' P) : AZ (ZL w L0 xs) w M_L_law 118 19112 791 [.retAddr 0, .ref 0, .ref 87, .int (nI (5 * c))] [] h P := by
  obtain ⟨hn, s, o, a, b, C, M0, Lv, Tr, Im⟩ := hi
  obtain ⟨x1, ex1⟩ : ∃ z, z = xs (5 * c + 1) := ⟨_, rfl⟩
  obtain ⟨x2, ex2⟩ : ∃ z, z = xs (5 * c + 2) := ⟨_, rfl⟩
  refine AZ.aload_n (pc := 791) dL_law_791 rfl ?_
  refine AZ.sload (pc := 792) dL_law_792 rfl ?_
  refine AZ.iload_n (pc := 793) dL_law_793 rfl ?_
  refine AZ.iconst (pc := 794) (v := nI 1) dL_law_794 (by decide) ?_
  refine AZ.iaddN (pc := 795) (c := 5 * c + 1) dL_law_795 rfl ?_
  refine AZ.sld (pc := 796) (i := 5 * c + 1) (by omega) hL0 dL_law_796 ?_
  rw [← ex1]
  refine AZ.sload (pc := 797) dL_law_797 rfl ?_
  refine AZ.iload_n (pc := 798) dL_law_798 rfl ?_
  refine AZ.iconst (pc := 799) (v := nI 2) dL_law_799 (by decide) ?_
  refine AZ.iaddN (pc := 800) (c := 5 * c + 2) dL_law_800 rfl ?_
  refine AZ.sld (pc := 801) (i := 5 * c + 2) (by omega) hL0 dL_law_801 ?_
  rw [← ex2]
  refine AZ.callV (pc := 802) (M2 := M_X11_ways) (As := [.int x1, .int x2]) (rest := []) (c_ways w h C x1 x2) ⟨xc_L_law__X11_ways.1, xc_L_law__X11_ways.2.1, xc_L_law__X11_ways.2.2.1, Nat.le_of_ble_eq_true rfl, Nat.le_of_ble_eq_true rfl⟩ gL_law_X11_ways (ci := 10) rfl (lt_k hn (by omega)) C.dm rfl (Nat.le_of_ble_eq_true rfl) dL_law_802 ?_
  rintro _ h1 ⟨rfl, s1, C1⟩
  have M1 : MS h1 s := M0.far s1 s1.cl
  have n1 := s1.le hn
  obtain ⟨vv1, O1, -⟩ := id M1.ob
  show AZ (ZL w L0 xs) w M_L_law 118 19112 805 [.retAddr 0, .ref 0, .ref 87, .int (nI (5 * c))] (_ :: []) _ _
  refine AZ.aload_n (pc := 805) dL_law_805 rfl ?_
  refine AZ.sload (pc := 806) dL_law_806 rfl ?_
  refine AZ.iload_n (pc := 807) dL_law_807 rfl ?_
  refine AZ.iconst (pc := 808) (v := nI 1) dL_law_808 (by decide) ?_
  refine AZ.iaddN (pc := 809) (c := 5 * c + 1) dL_law_809 rfl ?_
  refine AZ.sld (pc := 810) (i := 5 * c + 1) (by omega) hL0 dL_law_810 ?_
  rw [← ex1]
  refine AZ.sload (pc := 811) dL_law_811 rfl ?_
  refine AZ.iload_n (pc := 812) dL_law_812 rfl ?_
  refine AZ.iconst (pc := 813) (v := nI 2) dL_law_813 (by decide) ?_
  refine AZ.iaddN (pc := 814) (c := 5 * c + 2) dL_law_814 rfl ?_
  refine AZ.sld (pc := 815) (i := 5 * c + 2) (by omega) hL0 dL_law_815 ?_
  rw [← ex2]
  refine AZ.callV (pc := 816) (M2 := M_X12_ways) (As := [.int x1, .int x2]) (rest := [_]) (c_mWays w h1 M1 Lv x1 x2) ⟨xc_L_law__X12_ways.1, xc_L_law__X12_ways.2.1, xc_L_law__X12_ways.2.2.1, Nat.le_of_ble_eq_true rfl, Nat.le_of_ble_eq_true rfl⟩ gL_law_X12_ways (ci := 11) rfl (lt_k n1 (by omega)) O1 rfl (Nat.le_of_ble_eq_true rfl) dL_law_816 ?_
  rintro _ h2 ⟨rfl, s2, M2⟩
  have C2 := C1.far s2 s2.md
  have n2 := s2.le n1
  show AZ (ZL w L0 xs) w M_L_law 118 19112 819 [.retAddr 0, .ref 0, .ref 87, .int (nI (5 * c))] (_ :: _ :: []) _ _
  refine AZ.icmp_eq (pc := 819) (tgt := 1377) dL_law_819 (by decide) (fun _ => ?_) (fun q => absurd rfl q)
  exact kk h2 ⟨n2, s, o, a, b, C2, M2, Lv.more (by omega), Tr, fun q => (Im q).imp fun _ z => z.imp fun _ z => z.imp fun _ z => z.more (by omega)⟩
theorem l_case17 (w : XW) {L0 : Nat} {xs : Nat → Int32} (hL0 : L0 ≤ 2560) (P : Option Value → XH → Prop) {c : Nat} {h : XH} (hi : INV c h) (hc : 5 * c + 5 ≤ L0) (kk : ∀ h', INV (c + 1) h' → AZ (ZL w L0 xs) w M_L_law 118 19112 1377 [.retAddr 0, .ref 0, .ref 87, .int (nI (5 * c))] [] h' P) : AZ (ZL w L0 xs) w M_L_law 118 19112 824 [.retAddr 0, .ref 0, .ref 87, .int (nI (5 * c))] [] h P := by
  obtain ⟨hn, s, o, a, b, C, M0, Lv, Tr, Im⟩ := hi
  obtain ⟨x1, ex1⟩ : ∃ z, z = xs (5 * c + 1) := ⟨_, rfl⟩
  obtain ⟨x2, ex2⟩ : ∃ z, z = xs (5 * c + 2) := ⟨_, rfl⟩
  obtain ⟨x3, ex3⟩ : ∃ z, z = xs (5 * c + 3) := ⟨_, rfl⟩
  refine AZ.aload_n (pc := 824) dL_law_824 rfl ?_
  refine AZ.sload (pc := 825) dL_law_825 rfl ?_
  refine AZ.iload_n (pc := 826) dL_law_826 rfl ?_
  refine AZ.iconst (pc := 827) (v := nI 1) dL_law_827 (by decide) ?_
  refine AZ.iaddN (pc := 828) (c := 5 * c + 1) dL_law_828 rfl ?_
  refine AZ.sld (pc := 829) (i := 5 * c + 1) (by omega) hL0 dL_law_829 ?_
  rw [← ex1]
  refine AZ.sload (pc := 830) dL_law_830 rfl ?_
  refine AZ.iload_n (pc := 831) dL_law_831 rfl ?_
  refine AZ.iconst (pc := 832) (v := nI 2) dL_law_832 (by decide) ?_
  refine AZ.iaddN (pc := 833) (c := 5 * c + 2) dL_law_833 rfl ?_
  refine AZ.sld (pc := 834) (i := 5 * c + 2) (by omega) hL0 dL_law_834 ?_
  rw [← ex2]
  refine AZ.sload (pc := 835) dL_law_835 rfl ?_
  refine AZ.iload_n (pc := 836) dL_law_836 rfl ?_
  refine AZ.iconst (pc := 837) (v := nI 3) dL_law_837 (by decide) ?_
  refine AZ.iaddN (pc := 838) (c := 5 * c + 3) dL_law_838 rfl ?_
  refine AZ.sld (pc := 839) (i := 5 * c + 3) (by omega) hL0 dL_law_839 ?_
  rw [← ex3]
  refine AZ.callV (pc := 840) (M2 := M_X11_way) (As := [.int x1, .int x2, .int x3]) (rest := []) (c_way w h C x1 x2 x3) ⟨xc_L_law__X11_way.1, xc_L_law__X11_way.2.1, xc_L_law__X11_way.2.2.1, Nat.le_of_ble_eq_true rfl, Nat.le_of_ble_eq_true rfl⟩ gL_law_X11_way (ci := 10) rfl (lt_k hn (by omega)) C.dm rfl (Nat.le_of_ble_eq_true rfl) dL_law_840 ?_
  rintro _ h1 ⟨rfl, s1, C1⟩
  have M1 : MS h1 s := M0.far s1 s1.cl
  have n1 := s1.le hn
  obtain ⟨vv1, O1, -⟩ := id M1.ob
  show AZ (ZL w L0 xs) w M_L_law 118 19112 843 [.retAddr 0, .ref 0, .ref 87, .int (nI (5 * c))] (_ :: []) _ _
  refine AZ.aload_n (pc := 843) dL_law_843 rfl ?_
  refine AZ.sload (pc := 844) dL_law_844 rfl ?_
  refine AZ.iload_n (pc := 845) dL_law_845 rfl ?_
  refine AZ.iconst (pc := 846) (v := nI 1) dL_law_846 (by decide) ?_
  refine AZ.iaddN (pc := 847) (c := 5 * c + 1) dL_law_847 rfl ?_
  refine AZ.sld (pc := 848) (i := 5 * c + 1) (by omega) hL0 dL_law_848 ?_
  rw [← ex1]
  refine AZ.sload (pc := 849) dL_law_849 rfl ?_
  refine AZ.iload_n (pc := 850) dL_law_850 rfl ?_
  refine AZ.iconst (pc := 851) (v := nI 2) dL_law_851 (by decide) ?_
  refine AZ.iaddN (pc := 852) (c := 5 * c + 2) dL_law_852 rfl ?_
  refine AZ.sld (pc := 853) (i := 5 * c + 2) (by omega) hL0 dL_law_853 ?_
  rw [← ex2]
  refine AZ.sload (pc := 854) dL_law_854 rfl ?_
  refine AZ.iload_n (pc := 855) dL_law_855 rfl ?_
  refine AZ.iconst (pc := 856) (v := nI 3) dL_law_856 (by decide) ?_
  refine AZ.iaddN (pc := 857) (c := 5 * c + 3) dL_law_857 rfl ?_
  refine AZ.sld (pc := 858) (i := 5 * c + 3) (by omega) hL0 dL_law_858 ?_
  rw [← ex3]
  refine AZ.callV (pc := 859) (M2 := M_X12_way) (As := [.int x1, .int x2, .int x3]) (rest := [_]) (c_mWay w h1 M1 Lv x1 x2 x3) ⟨xc_L_law__X12_way.1, xc_L_law__X12_way.2.1, xc_L_law__X12_way.2.2.1, Nat.le_of_ble_eq_true rfl, Nat.le_of_ble_eq_true rfl⟩ gL_law_X12_way (ci := 11) rfl (lt_k n1 (by omega)) O1 rfl (Nat.le_of_ble_eq_true rfl) dL_law_859 ?_
  rintro _ h2 ⟨rfl, s2, M2⟩
  have C2 := C1.far s2 s2.md
  have n2 := s2.le n1
  show AZ (ZL w L0 xs) w M_L_law 118 19112 862 [.retAddr 0, .ref 0, .ref 87, .int (nI (5 * c))] (_ :: _ :: []) _ _
  refine AZ.icmp_eq (pc := 862) (tgt := 1377) dL_law_862 (by decide) (fun _ => ?_) (fun q => absurd rfl q)
  exact kk h2 ⟨n2, s, o, a, b, C2, M2, Lv.more (by omega), Tr, fun q => (Im q).imp fun _ z => z.imp fun _ z => z.imp fun _ z => z.more (by omega)⟩
theorem l_case18 (w : XW) {L0 : Nat} {xs : Nat → Int32} (hL0 : L0 ≤ 2560) (P : Option Value → XH → Prop) {c : Nat} {h : XH} (hi : INV c h) (hc : 5 * c + 5 ≤ L0) (kk : ∀ h', INV (c + 1) h' → AZ (ZL w L0 xs) w M_L_law 118 19112 1377 [.retAddr 0, .ref 0, .ref 87, .int (nI (5 * c))] [] h' P) : AZ (ZL w L0 xs) w M_L_law 118 19112 867 [.retAddr 0, .ref 0, .ref 87, .int (nI (5 * c))] [] h P := by
  obtain ⟨hn, s, o, a, b, C, M0, Lv, Tr, Im⟩ := hi
  obtain ⟨x1, ex1⟩ : ∃ z, z = xs (5 * c + 1) := ⟨_, rfl⟩
  obtain ⟨x2, ex2⟩ : ∃ z, z = xs (5 * c + 2) := ⟨_, rfl⟩
  refine AZ.aload_n (pc := 867) dL_law_867 rfl ?_
  refine AZ.sload (pc := 868) dL_law_868 rfl ?_
  refine AZ.iload_n (pc := 869) dL_law_869 rfl ?_
  refine AZ.iconst (pc := 870) (v := nI 1) dL_law_870 (by decide) ?_
  refine AZ.iaddN (pc := 871) (c := 5 * c + 1) dL_law_871 rfl ?_
  refine AZ.sld (pc := 872) (i := 5 * c + 1) (by omega) hL0 dL_law_872 ?_
  rw [← ex1]
  refine AZ.sload (pc := 873) dL_law_873 rfl ?_
  refine AZ.iload_n (pc := 874) dL_law_874 rfl ?_
  refine AZ.iconst (pc := 875) (v := nI 2) dL_law_875 (by decide) ?_
  refine AZ.iaddN (pc := 876) (c := 5 * c + 2) dL_law_876 rfl ?_
  refine AZ.sld (pc := 877) (i := 5 * c + 2) (by omega) hL0 dL_law_877 ?_
  rw [← ex2]
  refine AZ.callV (pc := 878) (M2 := M_X11_spell) (As := [.int x1, .int x2]) (rest := []) (c_spell w h C x1 x2) ⟨xc_L_law__X11_spell.1, xc_L_law__X11_spell.2.1, xc_L_law__X11_spell.2.2.1, Nat.le_of_ble_eq_true rfl, Nat.le_of_ble_eq_true rfl⟩ gL_law_X11_spell (ci := 10) rfl (lt_k hn (by omega)) C.dm rfl (Nat.le_of_ble_eq_true rfl) dL_law_878 ?_
  rintro _ h1 ⟨rfl, s1, C1⟩
  have M1 : MS h1 s := M0.far s1 s1.cl
  have n1 := s1.le hn
  obtain ⟨vv1, O1, -⟩ := id M1.ob
  show AZ (ZL w L0 xs) w M_L_law 118 19112 881 [.retAddr 0, .ref 0, .ref 87, .int (nI (5 * c))] (_ :: []) _ _
  refine AZ.aload_n (pc := 881) dL_law_881 rfl ?_
  refine AZ.sload (pc := 882) dL_law_882 rfl ?_
  refine AZ.iload_n (pc := 883) dL_law_883 rfl ?_
  refine AZ.iconst (pc := 884) (v := nI 1) dL_law_884 (by decide) ?_
  refine AZ.iaddN (pc := 885) (c := 5 * c + 1) dL_law_885 rfl ?_
  refine AZ.sld (pc := 886) (i := 5 * c + 1) (by omega) hL0 dL_law_886 ?_
  rw [← ex1]
  refine AZ.sload (pc := 887) dL_law_887 rfl ?_
  refine AZ.iload_n (pc := 888) dL_law_888 rfl ?_
  refine AZ.iconst (pc := 889) (v := nI 2) dL_law_889 (by decide) ?_
  refine AZ.iaddN (pc := 890) (c := 5 * c + 2) dL_law_890 rfl ?_
  refine AZ.sld (pc := 891) (i := 5 * c + 2) (by omega) hL0 dL_law_891 ?_
  rw [← ex2]
  refine AZ.callV (pc := 892) (M2 := M_X12_spell) (As := [.int x1, .int x2]) (rest := [_]) (c_mSpell w h1 M1 Lv x1 x2) ⟨xc_L_law__X12_spell.1, xc_L_law__X12_spell.2.1, xc_L_law__X12_spell.2.2.1, Nat.le_of_ble_eq_true rfl, Nat.le_of_ble_eq_true rfl⟩ gL_law_X12_spell (ci := 11) rfl (lt_k n1 (by omega)) O1 rfl (Nat.le_of_ble_eq_true rfl) dL_law_892 ?_
  rintro _ h2 ⟨rfl, s2, M2⟩
  have C2 := C1.far s2 s2.md
  have n2 := s2.le n1
  show AZ (ZL w L0 xs) w M_L_law 118 19112 895 [.retAddr 0, .ref 0, .ref 87, .int (nI (5 * c))] (_ :: _ :: []) _ _
  refine AZ.icmp_eq (pc := 895) (tgt := 1377) dL_law_895 (by decide) (fun _ => ?_) (fun q => absurd rfl q)
  exact kk h2 ⟨n2, (wX s (nSpell o (sX s) x1 x2)), o, a, b, C2, M2, Lv.more (by omega), Tr, fun q => (Im q).imp fun _ z => z.imp fun _ z => z.imp fun _ z => z.more (by omega)⟩
theorem l_case19 (w : XW) {L0 : Nat} {xs : Nat → Int32} (hL0 : L0 ≤ 2560) (P : Option Value → XH → Prop) {c : Nat} {h : XH} (hi : INV c h) (hc : 5 * c + 5 ≤ L0) (kk : ∀ h', INV (c + 1) h' → AZ (ZL w L0 xs) w M_L_law 118 19112 1377 [.retAddr 0, .ref 0, .ref 87, .int (nI (5 * c))] [] h' P) : AZ (ZL w L0 xs) w M_L_law 118 19112 900 [.retAddr 0, .ref 0, .ref 87, .int (nI (5 * c))] [] h P := by
  obtain ⟨hn, s, o, a, b, C, M0, Lv, Tr, Im⟩ := hi
  obtain ⟨x1, ex1⟩ : ∃ z, z = xs (5 * c + 1) := ⟨_, rfl⟩
  refine AZ.aload_n (pc := 900) dL_law_900 rfl ?_
  refine AZ.sload (pc := 901) dL_law_901 rfl ?_
  refine AZ.iload_n (pc := 902) dL_law_902 rfl ?_
  refine AZ.iconst (pc := 903) (v := nI 1) dL_law_903 (by decide) ?_
  refine AZ.iaddN (pc := 904) (c := 5 * c + 1) dL_law_904 rfl ?_
  refine AZ.sld (pc := 905) (i := 5 * c + 1) (by omega) hL0 dL_law_905 ?_
  rw [← ex1]
  refine AZ.callV (pc := 906) (M2 := M_X11_start) (As := [.int x1]) (rest := []) (c_start w h C Lv x1) ⟨xc_L_law__X11_start.1, xc_L_law__X11_start.2.1, xc_L_law__X11_start.2.2.1, Nat.le_of_ble_eq_true rfl, Nat.le_of_ble_eq_true rfl⟩ gL_law_X11_start (ci := 10) rfl (lt_k hn (by omega)) C.dm rfl (Nat.le_of_ble_eq_true rfl) dL_law_906 ?_
  rintro _ h1 ⟨rfl, s1, C1⟩
  have M1 : MS h1 s := M0.far s1 s1.cl
  have n1 := s1.le hn
  obtain ⟨vv1, O1, -⟩ := id M1.ob
  show AZ (ZL w L0 xs) w M_L_law 118 19112 909 [.retAddr 0, .ref 0, .ref 87, .int (nI (5 * c))] (_ :: []) _ _
  refine AZ.aload_n (pc := 909) dL_law_909 rfl ?_
  refine AZ.sload (pc := 910) dL_law_910 rfl ?_
  refine AZ.iload_n (pc := 911) dL_law_911 rfl ?_
  refine AZ.iconst (pc := 912) (v := nI 1) dL_law_912 (by decide) ?_
  refine AZ.iaddN (pc := 913) (c := 5 * c + 1) dL_law_913 rfl ?_
  refine AZ.sld (pc := 914) (i := 5 * c + 1) (by omega) hL0 dL_law_914 ?_
  rw [← ex1]
  refine AZ.callV (pc := 915) (M2 := M_X12_start) (As := [.int x1]) (rest := [_]) (c_mStart w h1 M1 Lv x1) ⟨xc_L_law__X12_start.1, xc_L_law__X12_start.2.1, xc_L_law__X12_start.2.2.1, Nat.le_of_ble_eq_true rfl, Nat.le_of_ble_eq_true rfl⟩ gL_law_X12_start (ci := 11) rfl (lt_k n1 (by omega)) O1 rfl (Nat.le_of_ble_eq_true rfl) dL_law_915 ?_
  rintro _ h2 ⟨rfl, s2, M2⟩
  have C2 := C1.far s2 s2.md
  have n2 := s2.le n1
  show AZ (ZL w L0 xs) w M_L_law 118 19112 918 [.retAddr 0, .ref 0, .ref 87, .int (nI (5 * c))] (_ :: _ :: []) _ _
  refine AZ.icmp_eq (pc := 918) (tgt := 1377) dL_law_918 (by decide) (fun _ => ?_) (fun q => absurd rfl q)
  exact kk h2 ⟨n2, (wq s (nStart (sq s) x1)), o, a, b, C2, M2, (Lv.start1 x1).more (by omega), Tr, fun q => (Im q).imp fun _ z => z.imp fun _ z => z.imp fun _ z => z.more (by omega)⟩
