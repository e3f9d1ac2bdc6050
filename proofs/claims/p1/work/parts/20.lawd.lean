/-! the law: declarations (by program) -/
def M_Law_law : pM := (⟨"CornerMapsLaw", "law", "([I)Z"⟩, code, 7, some .boolean)
theorem sm_Law_corner : Cond.static M_Law_corner.1 ∈ gtbl := g_at 1433 (by decide +kernel) rfl
theorem sm_Law_map : Cond.static M_Law_map.1 ∈ gtbl := g_at 1478 (by decide +kernel) rfl
theorem sm_Law_point : Cond.static M_Law_point.1 ∈ gtbl := g_at 1485 (by decide +kernel) rfl
theorem im_CM_feed : Cond.instanceMethod M_CM_feed.1 ∈ gtbl := g_at 322 (by decide +kernel) rfl
theorem se_CM_feed : Cond.selects M_CM_feed.1.cls M_CM_feed.1 M_CM_feed.1 ∈ gtbl := g_at 323 (by decide +kernel) rfl
theorem im_MD_feed : Cond.instanceMethod M_MD_feed.1 ∈ gtbl := g_at 1617 (by decide +kernel) rfl
theorem se_MD_feed : Cond.selects M_MD_feed.1.cls M_MD_feed.1 M_MD_feed.1 ∈ gtbl := g_at 1618 (by decide +kernel) rfl
theorem im_CM_text : Cond.instanceMethod M_CM_text.1 ∈ gtbl := g_at 334 (by decide +kernel) rfl
theorem se_CM_text : Cond.selects M_CM_text.1.cls M_CM_text.1 M_CM_text.1 ∈ gtbl := g_at 335 (by decide +kernel) rfl
theorem im_MD_text : Cond.instanceMethod M_MD_text.1 ∈ gtbl := g_at 1621 (by decide +kernel) rfl
theorem se_MD_text : Cond.selects M_MD_text.1.cls M_MD_text.1 M_MD_text.1 ∈ gtbl := g_at 1622 (by decide +kernel) rfl
theorem im_CM_fault : Cond.instanceMethod M_CM_fault.1 ∈ gtbl := g_at 497 (by decide +kernel) rfl
theorem se_CM_fault : Cond.selects M_CM_fault.1.cls M_CM_fault.1 M_CM_fault.1 ∈ gtbl := g_at 498 (by decide +kernel) rfl
theorem im_MD_fault : Cond.instanceMethod M_MD_fault.1 ∈ gtbl := g_at 1749 (by decide +kernel) rfl
theorem se_MD_fault : Cond.selects M_MD_fault.1.cls M_MD_fault.1 M_MD_fault.1 ∈ gtbl := g_at 1750 (by decide +kernel) rfl
theorem im_MD_corner : Cond.instanceMethod M_MD_corner.1 ∈ gtbl := g_at 1753 (by decide +kernel) rfl
theorem se_MD_corner : Cond.selects M_MD_corner.1.cls M_MD_corner.1 M_MD_corner.1 ∈ gtbl := g_at 1754 (by decide +kernel) rfl
theorem im_MD_map : Cond.instanceMethod M_MD_map.1 ∈ gtbl := g_at 1761 (by decide +kernel) rfl
theorem se_MD_map : Cond.selects M_MD_map.1.cls M_MD_map.1 M_MD_map.1 ∈ gtbl := g_at 1762 (by decide +kernel) rfl
theorem im_MD_point : Cond.instanceMethod M_MD_point.1 ∈ gtbl := g_at 1772 (by decide +kernel) rfl
theorem se_MD_point : Cond.selects M_MD_point.1.cls M_MD_point.1 M_MD_point.1 ∈ gtbl := g_at 1773 (by decide +kernel) rfl
theorem im_CM_shape : Cond.instanceMethod M_CM_shape.1 ∈ gtbl := g_at 501 (by decide +kernel) rfl
theorem se_CM_shape : Cond.selects M_CM_shape.1.cls M_CM_shape.1 M_CM_shape.1 ∈ gtbl := g_at 502 (by decide +kernel) rfl
theorem im_MD_shape : Cond.instanceMethod M_MD_shape.1 ∈ gtbl := g_at 1784 (by decide +kernel) rfl
theorem se_MD_shape : Cond.selects M_MD_shape.1.cls M_MD_shape.1 M_MD_shape.1 ∈ gtbl := g_at 1785 (by decide +kernel) rfl
theorem im_CM_dent : Cond.instanceMethod M_CM_dent.1 ∈ gtbl := g_at 522 (by decide +kernel) rfl
theorem se_CM_dent : Cond.selects M_CM_dent.1.cls M_CM_dent.1 M_CM_dent.1 ∈ gtbl := g_at 523 (by decide +kernel) rfl
theorem im_MD_dent : Cond.instanceMethod M_MD_dent.1 ∈ gtbl := g_at 1800 (by decide +kernel) rfl
theorem se_MD_dent : Cond.selects M_MD_dent.1.cls M_MD_dent.1 M_MD_dent.1 ∈ gtbl := g_at 1801 (by decide +kernel) rfl
theorem im_CM_area : Cond.instanceMethod M_CM_area.1 ∈ gtbl := g_at 527 (by decide +kernel) rfl
theorem se_CM_area : Cond.selects M_CM_area.1.cls M_CM_area.1 M_CM_area.1 ∈ gtbl := g_at 528 (by decide +kernel) rfl
theorem im_MD_area : Cond.instanceMethod M_MD_area.1 ∈ gtbl := g_at 1804 (by decide +kernel) rfl
theorem se_MD_area : Cond.selects M_MD_area.1.cls M_MD_area.1 M_MD_area.1 ∈ gtbl := g_at 1805 (by decide +kernel) rfl
theorem im_CM_make : Cond.instanceMethod M_CM_make.1 ∈ gtbl := g_at 536 (by decide +kernel) rfl
theorem se_CM_make : Cond.selects M_CM_make.1.cls M_CM_make.1 M_CM_make.1 ∈ gtbl := g_at 537 (by decide +kernel) rfl
theorem im_MD_make : Cond.instanceMethod M_MD_make.1 ∈ gtbl := g_at 1813 (by decide +kernel) rfl
theorem se_MD_make : Cond.selects M_MD_make.1.cls M_MD_make.1 M_MD_make.1 ∈ gtbl := g_at 1814 (by decide +kernel) rfl
theorem im_CM_square : Cond.instanceMethod M_CM_square.1 ∈ gtbl := g_at 555 (by decide +kernel) rfl
theorem se_CM_square : Cond.selects M_CM_square.1.cls M_CM_square.1 M_CM_square.1 ∈ gtbl := g_at 556 (by decide +kernel) rfl
theorem im_MD_square : Cond.instanceMethod M_MD_square.1 ∈ gtbl := g_at 1826 (by decide +kernel) rfl
theorem se_MD_square : Cond.selects M_MD_square.1.cls M_MD_square.1 M_MD_square.1 ∈ gtbl := g_at 1827 (by decide +kernel) rfl
theorem im_CM_product : Cond.instanceMethod M_CM_product.1 ∈ gtbl := g_at 565 (by decide +kernel) rfl
theorem se_CM_product : Cond.selects M_CM_product.1.cls M_CM_product.1 M_CM_product.1 ∈ gtbl := g_at 566 (by decide +kernel) rfl
theorem im_MD_product : Cond.instanceMethod M_MD_product.1 ∈ gtbl := g_at 1830 (by decide +kernel) rfl
theorem se_MD_product : Cond.selects M_MD_product.1.cls M_MD_product.1 M_MD_product.1 ∈ gtbl := g_at 1831 (by decide +kernel) rfl
theorem im_CM_inverse : Cond.instanceMethod M_CM_inverse.1 ∈ gtbl := g_at 574 (by decide +kernel) rfl
theorem se_CM_inverse : Cond.selects M_CM_inverse.1.cls M_CM_inverse.1 M_CM_inverse.1 ∈ gtbl := g_at 575 (by decide +kernel) rfl
theorem im_MD_inverse : Cond.instanceMethod M_MD_inverse.1 ∈ gtbl := g_at 1842 (by decide +kernel) rfl
theorem se_MD_inverse : Cond.selects M_MD_inverse.1.cls M_MD_inverse.1 M_MD_inverse.1 ∈ gtbl := g_at 1843 (by decide +kernel) rfl
theorem im_CM_power : Cond.instanceMethod M_CM_power.1 ∈ gtbl := g_at 579 (by decide +kernel) rfl
theorem se_CM_power : Cond.selects M_CM_power.1.cls M_CM_power.1 M_CM_power.1 ∈ gtbl := g_at 580 (by decide +kernel) rfl
theorem im_MD_power : Cond.instanceMethod M_MD_power.1 ∈ gtbl := g_at 1850 (by decide +kernel) rfl
theorem se_MD_power : Cond.selects M_MD_power.1.cls M_MD_power.1 M_MD_power.1 ∈ gtbl := g_at 1851 (by decide +kernel) rfl
theorem im_CM_drop : Cond.instanceMethod M_CM_drop.1 ∈ gtbl := g_at 590 (by decide +kernel) rfl
theorem se_CM_drop : Cond.selects M_CM_drop.1.cls M_CM_drop.1 M_CM_drop.1 ∈ gtbl := g_at 591 (by decide +kernel) rfl
theorem im_MD_drop : Cond.instanceMethod M_MD_drop.1 ∈ gtbl := g_at 1862 (by decide +kernel) rfl
theorem se_MD_drop : Cond.selects M_MD_drop.1.cls M_MD_drop.1 M_MD_drop.1 ∈ gtbl := g_at 1863 (by decide +kernel) rfl
theorem im_CM_tell : Cond.instanceMethod M_CM_tell.1 ∈ gtbl := g_at 604 (by decide +kernel) rfl
theorem se_CM_tell : Cond.selects M_CM_tell.1.cls M_CM_tell.1 M_CM_tell.1 ∈ gtbl := g_at 605 (by decide +kernel) rfl
theorem im_MD_tell : Cond.instanceMethod M_MD_tell.1 ∈ gtbl := g_at 1866 (by decide +kernel) rfl
theorem se_MD_tell : Cond.selects M_MD_tell.1.cls M_MD_tell.1 M_MD_tell.1 ∈ gtbl := g_at 1867 (by decide +kernel) rfl
theorem im_CM_moves : Cond.instanceMethod M_CM_moves.1 ∈ gtbl := g_at 623 (by decide +kernel) rfl
theorem se_CM_moves : Cond.selects M_CM_moves.1.cls M_CM_moves.1 M_CM_moves.1 ∈ gtbl := g_at 624 (by decide +kernel) rfl
theorem im_MD_moves : Cond.instanceMethod M_MD_moves.1 ∈ gtbl := g_at 1874 (by decide +kernel) rfl
theorem se_MD_moves : Cond.selects M_MD_moves.1.cls M_MD_moves.1 M_MD_moves.1 ∈ gtbl := g_at 1875 (by decide +kernel) rfl
theorem im_CM_undo : Cond.instanceMethod M_CM_undo.1 ∈ gtbl := g_at 647 (by decide +kernel) rfl
theorem se_CM_undo : Cond.selects M_CM_undo.1.cls M_CM_undo.1 M_CM_undo.1 ∈ gtbl := g_at 648 (by decide +kernel) rfl
theorem im_MD_undo : Cond.instanceMethod M_MD_undo.1 ∈ gtbl := g_at 1809 (by decide +kernel) rfl
theorem se_MD_undo : Cond.selects M_MD_undo.1.cls M_MD_undo.1 M_MD_undo.1 ∈ gtbl := g_at 1810 (by decide +kernel) rfl
theorem im_CM_image : Cond.instanceMethod M_CM_image.1 ∈ gtbl := g_at 660 (by decide +kernel) rfl
theorem se_CM_image : Cond.selects M_CM_image.1.cls M_CM_image.1 M_CM_image.1 ∈ gtbl := g_at 661 (by decide +kernel) rfl
theorem im_MD_image : Cond.instanceMethod M_MD_image.1 ∈ gtbl := g_at 1887 (by decide +kernel) rfl
theorem se_MD_image : Cond.selects M_MD_image.1.cls M_MD_image.1 M_MD_image.1 ∈ gtbl := g_at 1888 (by decide +kernel) rfl
theorem im_CM_before : Cond.instanceMethod M_CM_before.1 ∈ gtbl := g_at 671 (by decide +kernel) rfl
theorem se_CM_before : Cond.selects M_CM_before.1.cls M_CM_before.1 M_CM_before.1 ∈ gtbl := g_at 672 (by decide +kernel) rfl
theorem im_MD_before : Cond.instanceMethod M_MD_before.1 ∈ gtbl := g_at 1895 (by decide +kernel) rfl
theorem se_MD_before : Cond.selects M_MD_before.1.cls M_MD_before.1 M_MD_before.1 ∈ gtbl := g_at 1896 (by decide +kernel) rfl
theorem im_CM_line : Cond.instanceMethod M_CM_line.1 ∈ gtbl := g_at 676 (by decide +kernel) rfl
theorem se_CM_line : Cond.selects M_CM_line.1.cls M_CM_line.1 M_CM_line.1 ∈ gtbl := g_at 677 (by decide +kernel) rfl
theorem im_MD_line : Cond.instanceMethod M_MD_line.1 ∈ gtbl := g_at 1900 (by decide +kernel) rfl
theorem se_MD_line : Cond.selects M_MD_line.1.cls M_MD_line.1 M_MD_line.1 ∈ gtbl := g_at 1901 (by decide +kernel) rfl
theorem im_CM_horizon : Cond.instanceMethod M_CM_horizon.1 ∈ gtbl := g_at 683 (by decide +kernel) rfl
theorem se_CM_horizon : Cond.selects M_CM_horizon.1.cls M_CM_horizon.1 M_CM_horizon.1 ∈ gtbl := g_at 684 (by decide +kernel) rfl
theorem im_MD_horizon : Cond.instanceMethod M_MD_horizon.1 ∈ gtbl := g_at 1904 (by decide +kernel) rfl
theorem se_MD_horizon : Cond.selects M_MD_horizon.1.cls M_MD_horizon.1 M_MD_horizon.1 ∈ gtbl := g_at 1905 (by decide +kernel) rfl
theorem im_CM_vanishing : Cond.instanceMethod M_CM_vanishing.1 ∈ gtbl := g_at 689 (by decide +kernel) rfl
theorem se_CM_vanishing : Cond.selects M_CM_vanishing.1.cls M_CM_vanishing.1 M_CM_vanishing.1 ∈ gtbl := g_at 690 (by decide +kernel) rfl
theorem im_MD_vanishing : Cond.instanceMethod M_MD_vanishing.1 ∈ gtbl := g_at 1908 (by decide +kernel) rfl
theorem se_MD_vanishing : Cond.selects M_MD_vanishing.1.cls M_MD_vanishing.1 M_MD_vanishing.1 ∈ gtbl := g_at 1909 (by decide +kernel) rfl
theorem im_CM_cut : Cond.instanceMethod M_CM_cut.1 ∈ gtbl := g_at 693 (by decide +kernel) rfl
theorem se_CM_cut : Cond.selects M_CM_cut.1.cls M_CM_cut.1 M_CM_cut.1 ∈ gtbl := g_at 694 (by decide +kernel) rfl
theorem im_MD_cut : Cond.instanceMethod M_MD_cut.1 ∈ gtbl := g_at 1912 (by decide +kernel) rfl
theorem se_MD_cut : Cond.selects M_MD_cut.1.cls M_MD_cut.1 M_MD_cut.1 ∈ gtbl := g_at 1913 (by decide +kernel) rfl
theorem im_CM_cutSides : Cond.instanceMethod M_CM_cutSides.1 ∈ gtbl := g_at 714 (by decide +kernel) rfl
theorem se_CM_cutSides : Cond.selects M_CM_cutSides.1.cls M_CM_cutSides.1 M_CM_cutSides.1 ∈ gtbl := g_at 715 (by decide +kernel) rfl
theorem im_MD_cutSides : Cond.instanceMethod M_MD_cutSides.1 ∈ gtbl := g_at 1923 (by decide +kernel) rfl
theorem se_MD_cutSides : Cond.selects M_MD_cutSides.1.cls M_MD_cutSides.1 M_MD_cutSides.1 ∈ gtbl := g_at 1924 (by decide +kernel) rfl
theorem im_CM_kind : Cond.instanceMethod M_CM_kind.1 ∈ gtbl := g_at 718 (by decide +kernel) rfl
theorem se_CM_kind : Cond.selects M_CM_kind.1.cls M_CM_kind.1 M_CM_kind.1 ∈ gtbl := g_at 719 (by decide +kernel) rfl
theorem im_MD_kind : Cond.instanceMethod M_MD_kind.1 ∈ gtbl := g_at 1935 (by decide +kernel) rfl
theorem se_MD_kind : Cond.selects M_MD_kind.1.cls M_MD_kind.1 M_MD_kind.1 ∈ gtbl := g_at 1936 (by decide +kernel) rfl
theorem im_CM_turn : Cond.instanceMethod M_CM_turn.1 ∈ gtbl := g_at 725 (by decide +kernel) rfl
theorem se_CM_turn : Cond.selects M_CM_turn.1.cls M_CM_turn.1 M_CM_turn.1 ∈ gtbl := g_at 726 (by decide +kernel) rfl
theorem im_MD_turn : Cond.instanceMethod M_MD_turn.1 ∈ gtbl := g_at 1947 (by decide +kernel) rfl
theorem se_MD_turn : Cond.selects M_MD_turn.1.cls M_MD_turn.1 M_MD_turn.1 ∈ gtbl := g_at 1948 (by decide +kernel) rfl
theorem im_CM_order : Cond.instanceMethod M_CM_order.1 ∈ gtbl := g_at 734 (by decide +kernel) rfl
theorem se_CM_order : Cond.selects M_CM_order.1.cls M_CM_order.1 M_CM_order.1 ∈ gtbl := g_at 735 (by decide +kernel) rfl
theorem im_MD_order : Cond.instanceMethod M_MD_order.1 ∈ gtbl := g_at 1952 (by decide +kernel) rfl
theorem se_MD_order : Cond.selects M_MD_order.1.cls M_MD_order.1 M_MD_order.1 ∈ gtbl := g_at 1953 (by decide +kernel) rfl
theorem im_CM_same : Cond.instanceMethod M_CM_same.1 ∈ gtbl := g_at 741 (by decide +kernel) rfl
theorem se_CM_same : Cond.selects M_CM_same.1.cls M_CM_same.1 M_CM_same.1 ∈ gtbl := g_at 742 (by decide +kernel) rfl
theorem im_MD_same : Cond.instanceMethod M_MD_same.1 ∈ gtbl := g_at 1956 (by decide +kernel) rfl
theorem se_MD_same : Cond.selects M_MD_same.1.cls M_MD_same.1 M_MD_same.1 ∈ gtbl := g_at 1957 (by decide +kernel) rfl
theorem im_CM_commute : Cond.instanceMethod M_CM_commute.1 ∈ gtbl := g_at 745 (by decide +kernel) rfl
theorem se_CM_commute : Cond.selects M_CM_commute.1.cls M_CM_commute.1 M_CM_commute.1 ∈ gtbl := g_at 746 (by decide +kernel) rfl
theorem im_MD_commute : Cond.instanceMethod M_MD_commute.1 ∈ gtbl := g_at 1964 (by decide +kernel) rfl
theorem se_MD_commute : Cond.selects M_MD_commute.1.cls M_MD_commute.1 M_MD_commute.1 ∈ gtbl := g_at 1965 (by decide +kernel) rfl
theorem im_CM_undoes : Cond.instanceMethod M_CM_undoes.1 ∈ gtbl := g_at 753 (by decide +kernel) rfl
theorem se_CM_undoes : Cond.selects M_CM_undoes.1.cls M_CM_undoes.1 M_CM_undoes.1 ∈ gtbl := g_at 754 (by decide +kernel) rfl
theorem im_MD_undoes : Cond.instanceMethod M_MD_undoes.1 ∈ gtbl := g_at 1968 (by decide +kernel) rfl
theorem se_MD_undoes : Cond.selects M_MD_undoes.1.cls M_MD_undoes.1 M_MD_undoes.1 ∈ gtbl := g_at 1969 (by decide +kernel) rfl
theorem im_CM_stays : Cond.instanceMethod M_CM_stays.1 ∈ gtbl := g_at 761 (by decide +kernel) rfl
theorem se_CM_stays : Cond.selects M_CM_stays.1.cls M_CM_stays.1 M_CM_stays.1 ∈ gtbl := g_at 762 (by decide +kernel) rfl
theorem im_MD_stays : Cond.instanceMethod M_MD_stays.1 ∈ gtbl := g_at 1972 (by decide +kernel) rfl
theorem se_MD_stays : Cond.selects M_MD_stays.1.cls M_MD_stays.1 M_MD_stays.1 ∈ gtbl := g_at 1973 (by decide +kernel) rfl
theorem im_CM_points : Cond.instanceMethod M_CM_points.1 ∈ gtbl := g_at 769 (by decide +kernel) rfl
theorem se_CM_points : Cond.selects M_CM_points.1.cls M_CM_points.1 M_CM_points.1 ∈ gtbl := g_at 770 (by decide +kernel) rfl
theorem im_MD_points : Cond.instanceMethod M_MD_points.1 ∈ gtbl := g_at 1980 (by decide +kernel) rfl
theorem se_MD_points : Cond.selects M_MD_points.1.cls M_MD_points.1 M_MD_points.1 ∈ gtbl := g_at 1981 (by decide +kernel) rfl
theorem im_CM_join : Cond.instanceMethod M_CM_join.1 ∈ gtbl := g_at 778 (by decide +kernel) rfl
theorem se_CM_join : Cond.selects M_CM_join.1.cls M_CM_join.1 M_CM_join.1 ∈ gtbl := g_at 779 (by decide +kernel) rfl
theorem im_MD_join : Cond.instanceMethod M_MD_join.1 ∈ gtbl := g_at 1984 (by decide +kernel) rfl
theorem se_MD_join : Cond.selects M_MD_join.1.cls M_MD_join.1 M_MD_join.1 ∈ gtbl := g_at 1985 (by decide +kernel) rfl
theorem im_CM_inLine : Cond.instanceMethod M_CM_inLine.1 ∈ gtbl := g_at 786 (by decide +kernel) rfl
theorem se_CM_inLine : Cond.selects M_CM_inLine.1.cls M_CM_inLine.1 M_CM_inLine.1 ∈ gtbl := g_at 787 (by decide +kernel) rfl
theorem im_MD_inLine : Cond.instanceMethod M_MD_inLine.1 ∈ gtbl := g_at 1999 (by decide +kernel) rfl
theorem se_MD_inLine : Cond.selects M_MD_inLine.1.cls M_MD_inLine.1 M_MD_inLine.1 ∈ gtbl := g_at 2000 (by decide +kernel) rfl
theorem im_CM_meet : Cond.instanceMethod M_CM_meet.1 ∈ gtbl := g_at 795 (by decide +kernel) rfl
theorem se_CM_meet : Cond.selects M_CM_meet.1.cls M_CM_meet.1 M_CM_meet.1 ∈ gtbl := g_at 796 (by decide +kernel) rfl
theorem im_MD_meet : Cond.instanceMethod M_MD_meet.1 ∈ gtbl := g_at 2007 (by decide +kernel) rfl
theorem se_MD_meet : Cond.selects M_MD_meet.1.cls M_MD_meet.1 M_MD_meet.1 ∈ gtbl := g_at 2008 (by decide +kernel) rfl
theorem im_CM_share : Cond.instanceMethod M_CM_share.1 ∈ gtbl := g_at 803 (by decide +kernel) rfl
theorem se_CM_share : Cond.selects M_CM_share.1.cls M_CM_share.1 M_CM_share.1 ∈ gtbl := g_at 804 (by decide +kernel) rfl
theorem im_MD_share : Cond.instanceMethod M_MD_share.1 ∈ gtbl := g_at 2011 (by decide +kernel) rfl
theorem se_MD_share : Cond.selects M_MD_share.1.cls M_MD_share.1 M_MD_share.1 ∈ gtbl := g_at 2012 (by decide +kernel) rfl
theorem im_CM_fourth : Cond.instanceMethod M_CM_fourth.1 ∈ gtbl := g_at 829 (by decide +kernel) rfl
theorem se_CM_fourth : Cond.selects M_CM_fourth.1.cls M_CM_fourth.1 M_CM_fourth.1 ∈ gtbl := g_at 830 (by decide +kernel) rfl
theorem im_MD_fourth : Cond.instanceMethod M_MD_fourth.1 ∈ gtbl := g_at 2027 (by decide +kernel) rfl
theorem se_MD_fourth : Cond.selects M_MD_fourth.1.cls M_MD_fourth.1 M_MD_fourth.1 ∈ gtbl := g_at 2028 (by decide +kernel) rfl
theorem im_CM_track : Cond.instanceMethod M_CM_track.1 ∈ gtbl := g_at 834 (by decide +kernel) rfl
theorem se_CM_track : Cond.selects M_CM_track.1.cls M_CM_track.1 M_CM_track.1 ∈ gtbl := g_at 835 (by decide +kernel) rfl
theorem im_MD_track : Cond.instanceMethod M_MD_track.1 ∈ gtbl := g_at 2031 (by decide +kernel) rfl
theorem se_MD_track : Cond.selects M_MD_track.1.cls M_MD_track.1 M_MD_track.1 ∈ gtbl := g_at 2032 (by decide +kernel) rfl
theorem im_CM_cycle : Cond.instanceMethod M_CM_cycle.1 ∈ gtbl := g_at 846 (by decide +kernel) rfl
theorem se_CM_cycle : Cond.selects M_CM_cycle.1.cls M_CM_cycle.1 M_CM_cycle.1 ∈ gtbl := g_at 847 (by decide +kernel) rfl
theorem im_MD_cycle : Cond.instanceMethod M_MD_cycle.1 ∈ gtbl := g_at 2043 (by decide +kernel) rfl
theorem se_MD_cycle : Cond.selects M_MD_cycle.1.cls M_MD_cycle.1 M_MD_cycle.1 ∈ gtbl := g_at 2044 (by decide +kernel) rfl
theorem im_CM_whole : Cond.instanceMethod M_CM_whole.1 ∈ gtbl := g_at 850 (by decide +kernel) rfl
theorem se_CM_whole : Cond.selects M_CM_whole.1.cls M_CM_whole.1 M_CM_whole.1 ∈ gtbl := g_at 851 (by decide +kernel) rfl
theorem im_MD_whole : Cond.instanceMethod M_MD_whole.1 ∈ gtbl := g_at 2055 (by decide +kernel) rfl
theorem se_MD_whole : Cond.selects M_MD_whole.1.cls M_MD_whole.1 M_MD_whole.1 ∈ gtbl := g_at 2056 (by decide +kernel) rfl
theorem im_CM_inside : Cond.instanceMethod M_CM_inside.1 ∈ gtbl := g_at 854 (by decide +kernel) rfl
theorem se_CM_inside : Cond.selects M_CM_inside.1.cls M_CM_inside.1 M_CM_inside.1 ∈ gtbl := g_at 855 (by decide +kernel) rfl
theorem im_MD_inside : Cond.instanceMethod M_MD_inside.1 ∈ gtbl := g_at 2059 (by decide +kernel) rfl
theorem se_MD_inside : Cond.selects M_MD_inside.1.cls M_MD_inside.1 M_MD_inside.1 ∈ gtbl := g_at 2060 (by decide +kernel) rfl
theorem im_CM_crossings : Cond.instanceMethod M_CM_crossings.1 ∈ gtbl := g_at 873 (by decide +kernel) rfl
theorem se_CM_crossings : Cond.selects M_CM_crossings.1.cls M_CM_crossings.1 M_CM_crossings.1 ∈ gtbl := g_at 874 (by decide +kernel) rfl
theorem im_MD_crossings : Cond.instanceMethod M_MD_crossings.1 ∈ gtbl := g_at 2076 (by decide +kernel) rfl
theorem se_MD_crossings : Cond.selects M_MD_crossings.1.cls M_MD_crossings.1 M_MD_crossings.1 ∈ gtbl := g_at 2077 (by decide +kernel) rfl
theorem im_CM_diagonal : Cond.instanceMethod M_CM_diagonal.1 ∈ gtbl := g_at 885 (by decide +kernel) rfl
theorem se_CM_diagonal : Cond.selects M_CM_diagonal.1.cls M_CM_diagonal.1 M_CM_diagonal.1 ∈ gtbl := g_at 886 (by decide +kernel) rfl
theorem im_MD_diagonal : Cond.instanceMethod M_MD_diagonal.1 ∈ gtbl := g_at 2092 (by decide +kernel) rfl
theorem se_MD_diagonal : Cond.selects M_MD_diagonal.1.cls M_MD_diagonal.1 M_MD_diagonal.1 ∈ gtbl := g_at 2093 (by decide +kernel) rfl
theorem im_CM_parallel : Cond.instanceMethod M_CM_parallel.1 ∈ gtbl := g_at 895 (by decide +kernel) rfl
theorem se_CM_parallel : Cond.selects M_CM_parallel.1.cls M_CM_parallel.1 M_CM_parallel.1 ∈ gtbl := g_at 896 (by decide +kernel) rfl
theorem im_MD_parallel : Cond.instanceMethod M_MD_parallel.1 ∈ gtbl := g_at 2104 (by decide +kernel) rfl
theorem se_MD_parallel : Cond.selects M_MD_parallel.1.cls M_MD_parallel.1 M_MD_parallel.1 ∈ gtbl := g_at 2105 (by decide +kernel) rfl
theorem im_CM_shapeBy : Cond.instanceMethod M_CM_shapeBy.1 ∈ gtbl := g_at 899 (by decide +kernel) rfl
theorem se_CM_shapeBy : Cond.selects M_CM_shapeBy.1.cls M_CM_shapeBy.1 M_CM_shapeBy.1 ∈ gtbl := g_at 900 (by decide +kernel) rfl
theorem im_MD_shapeBy : Cond.instanceMethod M_MD_shapeBy.1 ∈ gtbl := g_at 2108 (by decide +kernel) rfl
theorem se_MD_shapeBy : Cond.selects M_MD_shapeBy.1.cls M_MD_shapeBy.1 M_MD_shapeBy.1 ∈ gtbl := g_at 2109 (by decide +kernel) rfl
theorem im_CM_symmetries : Cond.instanceMethod M_CM_symmetries.1 ∈ gtbl := g_at 912 (by decide +kernel) rfl
theorem se_CM_symmetries : Cond.selects M_CM_symmetries.1.cls M_CM_symmetries.1 M_CM_symmetries.1 ∈ gtbl := g_at 913 (by decide +kernel) rfl
theorem im_MD_symmetries : Cond.instanceMethod M_MD_symmetries.1 ∈ gtbl := g_at 2120 (by decide +kernel) rfl
theorem se_MD_symmetries : Cond.selects M_MD_symmetries.1.cls M_MD_symmetries.1 M_MD_symmetries.1 ∈ gtbl := g_at 2121 (by decide +kernel) rfl
theorem im_CM_symmetry : Cond.instanceMethod M_CM_symmetry.1 ∈ gtbl := g_at 919 (by decide +kernel) rfl
theorem se_CM_symmetry : Cond.selects M_CM_symmetry.1.cls M_CM_symmetry.1 M_CM_symmetry.1 ∈ gtbl := g_at 920 (by decide +kernel) rfl
theorem im_MD_symmetry : Cond.instanceMethod M_MD_symmetry.1 ∈ gtbl := g_at 2128 (by decide +kernel) rfl
theorem se_MD_symmetry : Cond.selects M_MD_symmetry.1.cls M_MD_symmetry.1 M_MD_symmetry.1 ∈ gtbl := g_at 2129 (by decide +kernel) rfl
theorem im_CM_word : Cond.instanceMethod M_CM_word.1 ∈ gtbl := g_at 923 (by decide +kernel) rfl
theorem se_CM_word : Cond.selects M_CM_word.1.cls M_CM_word.1 M_CM_word.1 ∈ gtbl := g_at 924 (by decide +kernel) rfl
theorem im_MD_word : Cond.instanceMethod M_MD_word.1 ∈ gtbl := g_at 2132 (by decide +kernel) rfl
theorem se_MD_word : Cond.selects M_MD_word.1.cls M_MD_word.1 M_MD_word.1 ∈ gtbl := g_at 2133 (by decide +kernel) rfl
theorem im_CM_generated : Cond.instanceMethod M_CM_generated.1 ∈ gtbl := g_at 960 (by decide +kernel) rfl
theorem se_CM_generated : Cond.selects M_CM_generated.1.cls M_CM_generated.1 M_CM_generated.1 ∈ gtbl := g_at 961 (by decide +kernel) rfl
theorem im_MD_generated : Cond.instanceMethod M_MD_generated.1 ∈ gtbl := g_at 2148 (by decide +kernel) rfl
theorem se_MD_generated : Cond.selects M_MD_generated.1.cls M_MD_generated.1 M_MD_generated.1 ∈ gtbl := g_at 2149 (by decide +kernel) rfl
theorem im_CM_leads : Cond.instanceMethod M_CM_leads.1 ∈ gtbl := g_at 972 (by decide +kernel) rfl
theorem se_CM_leads : Cond.selects M_CM_leads.1.cls M_CM_leads.1 M_CM_leads.1 ∈ gtbl := g_at 973 (by decide +kernel) rfl
theorem im_MD_leads : Cond.instanceMethod M_MD_leads.1 ∈ gtbl := g_at 2051 (by decide +kernel) rfl
theorem se_MD_leads : Cond.selects M_MD_leads.1.cls M_MD_leads.1 M_MD_leads.1 ∈ gtbl := g_at 2052 (by decide +kernel) rfl
theorem im_CM_pull : Cond.instanceMethod M_CM_pull.1 ∈ gtbl := g_at 976 (by decide +kernel) rfl
theorem se_CM_pull : Cond.selects M_CM_pull.1.cls M_CM_pull.1 M_CM_pull.1 ∈ gtbl := g_at 977 (by decide +kernel) rfl
theorem im_MD_pull : Cond.instanceMethod M_MD_pull.1 ∈ gtbl := g_at 2166 (by decide +kernel) rfl
theorem se_MD_pull : Cond.selects M_MD_pull.1.cls M_MD_pull.1 M_MD_pull.1 ∈ gtbl := g_at 2167 (by decide +kernel) rfl
theorem im_CM_keepsLine : Cond.instanceMethod M_CM_keepsLine.1 ∈ gtbl := g_at 980 (by decide +kernel) rfl
theorem se_CM_keepsLine : Cond.selects M_CM_keepsLine.1.cls M_CM_keepsLine.1 M_CM_keepsLine.1 ∈ gtbl := g_at 981 (by decide +kernel) rfl
theorem im_MD_keepsLine : Cond.instanceMethod M_MD_keepsLine.1 ∈ gtbl := g_at 2174 (by decide +kernel) rfl
theorem se_MD_keepsLine : Cond.selects M_MD_keepsLine.1.cls M_MD_keepsLine.1 M_MD_keepsLine.1 ∈ gtbl := g_at 2175 (by decide +kernel) rfl
theorem im_CM_side : Cond.instanceMethod M_CM_side.1 ∈ gtbl := g_at 984 (by decide +kernel) rfl
theorem se_CM_side : Cond.selects M_CM_side.1.cls M_CM_side.1 M_CM_side.1 ∈ gtbl := g_at 985 (by decide +kernel) rfl
theorem im_MD_side : Cond.instanceMethod M_MD_side.1 ∈ gtbl := g_at 2178 (by decide +kernel) rfl
theorem se_MD_side : Cond.selects M_MD_side.1.cls M_MD_side.1 M_MD_side.1 ∈ gtbl := g_at 2179 (by decide +kernel) rfl
theorem im_CM_turnOf : Cond.instanceMethod M_CM_turnOf.1 ∈ gtbl := g_at 991 (by decide +kernel) rfl
theorem se_CM_turnOf : Cond.selects M_CM_turnOf.1.cls M_CM_turnOf.1 M_CM_turnOf.1 ∈ gtbl := g_at 992 (by decide +kernel) rfl
theorem im_MD_turnOf : Cond.instanceMethod M_MD_turnOf.1 ∈ gtbl := g_at 2182 (by decide +kernel) rfl
theorem se_MD_turnOf : Cond.selects M_MD_turnOf.1.cls M_MD_turnOf.1 M_MD_turnOf.1 ∈ gtbl := g_at 2183 (by decide +kernel) rfl
theorem im_CM_gap : Cond.instanceMethod M_CM_gap.1 ∈ gtbl := g_at 1000 (by decide +kernel) rfl
theorem se_CM_gap : Cond.selects M_CM_gap.1.cls M_CM_gap.1 M_CM_gap.1 ∈ gtbl := g_at 1001 (by decide +kernel) rfl
theorem im_MD_gap : Cond.instanceMethod M_MD_gap.1 ∈ gtbl := g_at 2190 (by decide +kernel) rfl
theorem se_MD_gap : Cond.selects M_MD_gap.1.cls M_MD_gap.1 M_MD_gap.1 ∈ gtbl := g_at 2191 (by decide +kernel) rfl
theorem im_CM_middle : Cond.instanceMethod M_CM_middle.1 ∈ gtbl := g_at 1005 (by decide +kernel) rfl
theorem se_CM_middle : Cond.selects M_CM_middle.1.cls M_CM_middle.1 M_CM_middle.1 ∈ gtbl := g_at 1006 (by decide +kernel) rfl
theorem im_MD_middle : Cond.instanceMethod M_MD_middle.1 ∈ gtbl := g_at 2198 (by decide +kernel) rfl
theorem se_MD_middle : Cond.selects M_MD_middle.1.cls M_MD_middle.1 M_MD_middle.1 ∈ gtbl := g_at 2199 (by decide +kernel) rfl
theorem im_CM_partner : Cond.instanceMethod M_CM_partner.1 ∈ gtbl := g_at 1010 (by decide +kernel) rfl
theorem se_CM_partner : Cond.selects M_CM_partner.1.cls M_CM_partner.1 M_CM_partner.1 ∈ gtbl := g_at 1011 (by decide +kernel) rfl
theorem im_MD_partner : Cond.instanceMethod M_MD_partner.1 ∈ gtbl := g_at 2207 (by decide +kernel) rfl
theorem se_MD_partner : Cond.selects M_MD_partner.1.cls M_MD_partner.1 M_MD_partner.1 ∈ gtbl := g_at 2208 (by decide +kernel) rfl
theorem im_CM_cornerBy : Cond.instanceMethod M_CM_cornerBy.1 ∈ gtbl := g_at 1014 (by decide +kernel) rfl
theorem se_CM_cornerBy : Cond.selects M_CM_cornerBy.1.cls M_CM_cornerBy.1 M_CM_cornerBy.1 ∈ gtbl := g_at 1015 (by decide +kernel) rfl
theorem im_MD_cornerBy : Cond.instanceMethod M_MD_cornerBy.1 ∈ gtbl := g_at 2237 (by decide +kernel) rfl
theorem se_MD_cornerBy : Cond.selects M_MD_cornerBy.1.cls M_MD_cornerBy.1 M_MD_cornerBy.1 ∈ gtbl := g_at 2238 (by decide +kernel) rfl
theorem im_CM_scale : Cond.instanceMethod M_CM_scale.1 ∈ gtbl := g_at 1018 (by decide +kernel) rfl
theorem se_CM_scale : Cond.selects M_CM_scale.1.cls M_CM_scale.1 M_CM_scale.1 ∈ gtbl := g_at 1019 (by decide +kernel) rfl
theorem im_MD_scale : Cond.instanceMethod M_MD_scale.1 ∈ gtbl := g_at 2203 (by decide +kernel) rfl
theorem se_MD_scale : Cond.selects M_MD_scale.1.cls M_MD_scale.1 M_MD_scale.1 ∈ gtbl := g_at 2204 (by decide +kernel) rfl
theorem im_CM_likeness : Cond.instanceMethod M_CM_likeness.1 ∈ gtbl := g_at 1022 (by decide +kernel) rfl
theorem se_CM_likeness : Cond.selects M_CM_likeness.1.cls M_CM_likeness.1 M_CM_likeness.1 ∈ gtbl := g_at 1023 (by decide +kernel) rfl
theorem im_MD_likeness : Cond.instanceMethod M_MD_likeness.1 ∈ gtbl := g_at 2211 (by decide +kernel) rfl
theorem se_MD_likeness : Cond.selects M_MD_likeness.1.cls M_MD_likeness.1 M_MD_likeness.1 ∈ gtbl := g_at 2212 (by decide +kernel) rfl
theorem im_CM_hits : Cond.instanceMethod M_CM_hits.1 ∈ gtbl := g_at 1026 (by decide +kernel) rfl
theorem se_CM_hits : Cond.selects M_CM_hits.1.cls M_CM_hits.1 M_CM_hits.1 ∈ gtbl := g_at 1027 (by decide +kernel) rfl
theorem im_MD_hits : Cond.instanceMethod M_MD_hits.1 ∈ gtbl := g_at 2245 (by decide +kernel) rfl
theorem se_MD_hits : Cond.selects M_MD_hits.1.cls M_MD_hits.1 M_MD_hits.1 ∈ gtbl := g_at 2246 (by decide +kernel) rfl
theorem im_CM_goesTo : Cond.instanceMethod M_CM_goesTo.1 ∈ gtbl := g_at 1039 (by decide +kernel) rfl
theorem se_CM_goesTo : Cond.selects M_CM_goesTo.1.cls M_CM_goesTo.1 M_CM_goesTo.1 ∈ gtbl := g_at 1040 (by decide +kernel) rfl
theorem im_MD_goesTo : Cond.instanceMethod M_MD_goesTo.1 ∈ gtbl := g_at 2253 (by decide +kernel) rfl
theorem se_MD_goesTo : Cond.selects M_MD_goesTo.1.cls M_MD_goesTo.1 M_MD_goesTo.1 ∈ gtbl := g_at 2254 (by decide +kernel) rfl
theorem im_CM_farthest : Cond.instanceMethod M_CM_farthest.1 ∈ gtbl := g_at 1043 (by decide +kernel) rfl
theorem se_CM_farthest : Cond.selects M_CM_farthest.1.cls M_CM_farthest.1 M_CM_farthest.1 ∈ gtbl := g_at 1044 (by decide +kernel) rfl
theorem im_MD_farthest : Cond.instanceMethod M_MD_farthest.1 ∈ gtbl := g_at 2257 (by decide +kernel) rfl
theorem se_MD_farthest : Cond.selects M_MD_farthest.1.cls M_MD_farthest.1 M_MD_farthest.1 ∈ gtbl := g_at 2258 (by decide +kernel) rfl
theorem im_CM_biggest : Cond.instanceMethod M_CM_biggest.1 ∈ gtbl := g_at 1048 (by decide +kernel) rfl
theorem se_CM_biggest : Cond.selects M_CM_biggest.1.cls M_CM_biggest.1 M_CM_biggest.1 ∈ gtbl := g_at 1049 (by decide +kernel) rfl
theorem im_MD_biggest : Cond.instanceMethod M_MD_biggest.1 ∈ gtbl := g_at 2215 (by decide +kernel) rfl
theorem se_MD_biggest : Cond.selects M_MD_biggest.1.cls M_MD_biggest.1 M_MD_biggest.1 ∈ gtbl := g_at 2216 (by decide +kernel) rfl
theorem im_CM_kinds : Cond.instanceMethod M_CM_kinds.1 ∈ gtbl := g_at 1052 (by decide +kernel) rfl
theorem se_CM_kinds : Cond.selects M_CM_kinds.1.cls M_CM_kinds.1 M_CM_kinds.1 ∈ gtbl := g_at 1053 (by decide +kernel) rfl
theorem im_MD_kinds : Cond.instanceMethod M_MD_kinds.1 ∈ gtbl := g_at 2223 (by decide +kernel) rfl
theorem se_MD_kinds : Cond.selects M_MD_kinds.1.cls M_MD_kinds.1 M_MD_kinds.1 ∈ gtbl := g_at 2224 (by decide +kernel) rfl
theorem im_CM_pairs : Cond.instanceMethod M_CM_pairs.1 ∈ gtbl := g_at 1056 (by decide +kernel) rfl
theorem se_CM_pairs : Cond.selects M_CM_pairs.1.cls M_CM_pairs.1 M_CM_pairs.1 ∈ gtbl := g_at 1057 (by decide +kernel) rfl
theorem im_MD_pairs : Cond.instanceMethod M_MD_pairs.1 ∈ gtbl := g_at 2227 (by decide +kernel) rfl
theorem se_MD_pairs : Cond.selects M_MD_pairs.1.cls M_MD_pairs.1 M_MD_pairs.1 ∈ gtbl := g_at 2228 (by decide +kernel) rfl
theorem im_CM_spell : Cond.instanceMethod M_CM_spell.1 ∈ gtbl := g_at 1064 (by decide +kernel) rfl
theorem se_CM_spell : Cond.selects M_CM_spell.1.cls M_CM_spell.1 M_CM_spell.1 ∈ gtbl := g_at 1065 (by decide +kernel) rfl
theorem im_MD_spell : Cond.instanceMethod M_MD_spell.1 ∈ gtbl := g_at 2156 (by decide +kernel) rfl
theorem se_MD_spell : Cond.selects M_MD_spell.1.cls M_MD_spell.1 M_MD_spell.1 ∈ gtbl := g_at 2157 (by decide +kernel) rfl
theorem im_CM_kept : Cond.instanceMethod M_CM_kept.1 ∈ gtbl := g_at 1417 (by decide +kernel) rfl
theorem se_CM_kept : Cond.selects M_CM_kept.1.cls M_CM_kept.1 M_CM_kept.1 ∈ gtbl := g_at 1418 (by decide +kernel) rfl
theorem im_MD_kept : Cond.instanceMethod M_MD_kept.1 ∈ gtbl := g_at 1931 (by decide +kernel) rfl
theorem se_MD_kept : Cond.selects M_MD_kept.1.cls M_MD_kept.1 M_MD_kept.1 ∈ gtbl := g_at 1932 (by decide +kernel) rfl
theorem im_CM_find : Cond.instanceMethod M_CM_find.1 ∈ gtbl := g_at 1421 (by decide +kernel) rfl
theorem se_CM_find : Cond.selects M_CM_find.1.cls M_CM_find.1 M_CM_find.1 ∈ gtbl := g_at 1422 (by decide +kernel) rfl
theorem im_MD_find : Cond.instanceMethod M_MD_find.1 ∈ gtbl := g_at 2261 (by decide +kernel) rfl
theorem se_MD_find : Cond.selects M_MD_find.1.cls M_MD_find.1 M_MD_find.1 ∈ gtbl := g_at 2262 (by decide +kernel) rfl
theorem im_CM_size : Cond.instanceMethod M_CM_size.1 ∈ gtbl := g_at 1425 (by decide +kernel) rfl
theorem se_CM_size : Cond.selects M_CM_size.1.cls M_CM_size.1 M_CM_size.1 ∈ gtbl := g_at 1426 (by decide +kernel) rfl
theorem im_MD_size : Cond.instanceMethod M_MD_size.1 ∈ gtbl := g_at 2265 (by decide +kernel) rfl
theorem se_MD_size : Cond.selects M_MD_size.1.cls M_MD_size.1 M_MD_size.1 ∈ gtbl := g_at 2266 (by decide +kernel) rfl
theorem im_CM_count : Cond.instanceMethod M_CM_count.1 ∈ gtbl := g_at 1429 (by decide +kernel) rfl
theorem se_CM_count : Cond.selects M_CM_count.1.cls M_CM_count.1 M_CM_count.1 ∈ gtbl := g_at 1430 (by decide +kernel) rfl
theorem im_MD_count : Cond.instanceMethod M_MD_count.1 ∈ gtbl := g_at 2269 (by decide +kernel) rfl
theorem se_MD_count : Cond.selects M_MD_count.1.cls M_MD_count.1 M_MD_count.1 ∈ gtbl := g_at 2270 (by decide +kernel) rfl
theorem L_Law_28 : Cond.methodLink "CornerMapsLaw" 28 ⟨"CornerMaps", "feed", "(IIIII)I"⟩ ∈ gtbl := g_at 321 (by decide +kernel) rfl
theorem L_Law_32 : Cond.methodLink "CornerMapsLaw" 32 ⟨"CornerMapsModel", "feed", "(IIIII)I"⟩ ∈ gtbl := g_at 1616 (by decide +kernel) rfl
theorem L_Law_33 : Cond.methodLink "CornerMapsLaw" 33 ⟨"CornerMaps", "text", "(I)I"⟩ ∈ gtbl := g_at 333 (by decide +kernel) rfl
theorem L_Law_37 : Cond.methodLink "CornerMapsLaw" 37 ⟨"CornerMapsModel", "text", "(I)I"⟩ ∈ gtbl := g_at 1620 (by decide +kernel) rfl
theorem L_Law_38 : Cond.methodLink "CornerMapsLaw" 38 ⟨"CornerMaps", "fault", "(I)I"⟩ ∈ gtbl := g_at 496 (by decide +kernel) rfl
theorem L_Law_41 : Cond.methodLink "CornerMapsLaw" 41 ⟨"CornerMapsModel", "fault", "(I)I"⟩ ∈ gtbl := g_at 1748 (by decide +kernel) rfl
theorem L_Law_42 : Cond.methodLink "CornerMapsLaw" 42 ⟨"CornerMapsLaw", "corner", "(LCornerMaps;III[J)I"⟩ ∈ gtbl := g_at 1432 (by decide +kernel) rfl
theorem L_Law_47 : Cond.methodLink "CornerMapsLaw" 47 ⟨"CornerMapsModel", "corner", "(III)I"⟩ ∈ gtbl := g_at 1752 (by decide +kernel) rfl
theorem L_Law_48 : Cond.methodLink "CornerMapsLaw" 48 ⟨"CornerMapsModel", "thrown", "()I"⟩ ∈ gtbl := g_at 1612 (by decide +kernel) rfl
theorem L_Law_52 : Cond.methodLink "CornerMapsLaw" 52 ⟨"CornerMapsLaw", "map", "(LCornerMaps;III[J)I"⟩ ∈ gtbl := g_at 1477 (by decide +kernel) rfl
theorem L_Law_54 : Cond.methodLink "CornerMapsLaw" 54 ⟨"CornerMapsModel", "map", "(III)I"⟩ ∈ gtbl := g_at 1760 (by decide +kernel) rfl
theorem L_Law_55 : Cond.methodLink "CornerMapsLaw" 55 ⟨"CornerMapsLaw", "point", "(LCornerMaps;II[J)I"⟩ ∈ gtbl := g_at 1484 (by decide +kernel) rfl
theorem L_Law_58 : Cond.methodLink "CornerMapsLaw" 58 ⟨"CornerMapsModel", "point", "(II)I"⟩ ∈ gtbl := g_at 1771 (by decide +kernel) rfl
theorem L_Law_59 : Cond.methodLink "CornerMapsLaw" 59 ⟨"CornerMaps", "shape", "(I)I"⟩ ∈ gtbl := g_at 500 (by decide +kernel) rfl
theorem L_Law_62 : Cond.methodLink "CornerMapsLaw" 62 ⟨"CornerMapsModel", "shape", "(I)I"⟩ ∈ gtbl := g_at 1783 (by decide +kernel) rfl
theorem L_Law_63 : Cond.methodLink "CornerMapsLaw" 63 ⟨"CornerMaps", "dent", "(I)I"⟩ ∈ gtbl := g_at 521 (by decide +kernel) rfl
theorem L_Law_66 : Cond.methodLink "CornerMapsLaw" 66 ⟨"CornerMapsModel", "dent", "(I)I"⟩ ∈ gtbl := g_at 1799 (by decide +kernel) rfl
theorem L_Law_67 : Cond.methodLink "CornerMapsLaw" 67 ⟨"CornerMaps", "area", "(I)I"⟩ ∈ gtbl := g_at 526 (by decide +kernel) rfl
theorem L_Law_70 : Cond.methodLink "CornerMapsLaw" 70 ⟨"CornerMapsModel", "area", "(I)I"⟩ ∈ gtbl := g_at 1803 (by decide +kernel) rfl
theorem L_Law_71 : Cond.methodLink "CornerMapsLaw" 71 ⟨"CornerMaps", "make", "(II)I"⟩ ∈ gtbl := g_at 535 (by decide +kernel) rfl
theorem L_Law_74 : Cond.methodLink "CornerMapsLaw" 74 ⟨"CornerMapsModel", "make", "(II)I"⟩ ∈ gtbl := g_at 1812 (by decide +kernel) rfl
theorem L_Law_75 : Cond.methodLink "CornerMapsLaw" 75 ⟨"CornerMaps", "square", "(II)I"⟩ ∈ gtbl := g_at 554 (by decide +kernel) rfl
theorem L_Law_78 : Cond.methodLink "CornerMapsLaw" 78 ⟨"CornerMapsModel", "square", "(II)I"⟩ ∈ gtbl := g_at 1825 (by decide +kernel) rfl
theorem L_Law_79 : Cond.methodLink "CornerMapsLaw" 79 ⟨"CornerMaps", "product", "(II)I"⟩ ∈ gtbl := g_at 564 (by decide +kernel) rfl
theorem L_Law_82 : Cond.methodLink "CornerMapsLaw" 82 ⟨"CornerMapsModel", "product", "(II)I"⟩ ∈ gtbl := g_at 1829 (by decide +kernel) rfl
theorem L_Law_83 : Cond.methodLink "CornerMapsLaw" 83 ⟨"CornerMaps", "inverse", "(I)I"⟩ ∈ gtbl := g_at 573 (by decide +kernel) rfl
theorem L_Law_86 : Cond.methodLink "CornerMapsLaw" 86 ⟨"CornerMapsModel", "inverse", "(I)I"⟩ ∈ gtbl := g_at 1841 (by decide +kernel) rfl
theorem L_Law_87 : Cond.methodLink "CornerMapsLaw" 87 ⟨"CornerMaps", "power", "(II)I"⟩ ∈ gtbl := g_at 578 (by decide +kernel) rfl
theorem L_Law_90 : Cond.methodLink "CornerMapsLaw" 90 ⟨"CornerMapsModel", "power", "(II)I"⟩ ∈ gtbl := g_at 1849 (by decide +kernel) rfl
theorem L_Law_91 : Cond.methodLink "CornerMapsLaw" 91 ⟨"CornerMaps", "drop", "(I)I"⟩ ∈ gtbl := g_at 589 (by decide +kernel) rfl
theorem L_Law_94 : Cond.methodLink "CornerMapsLaw" 94 ⟨"CornerMapsModel", "drop", "(I)I"⟩ ∈ gtbl := g_at 1861 (by decide +kernel) rfl
theorem L_Law_95 : Cond.methodLink "CornerMapsLaw" 95 ⟨"CornerMaps", "tell", "(III)I"⟩ ∈ gtbl := g_at 603 (by decide +kernel) rfl
theorem L_Law_98 : Cond.methodLink "CornerMapsLaw" 98 ⟨"CornerMapsModel", "tell", "(III)I"⟩ ∈ gtbl := g_at 1865 (by decide +kernel) rfl
theorem L_Law_99 : Cond.methodLink "CornerMapsLaw" 99 ⟨"CornerMaps", "moves", "(I)I"⟩ ∈ gtbl := g_at 622 (by decide +kernel) rfl
theorem L_Law_102 : Cond.methodLink "CornerMapsLaw" 102 ⟨"CornerMapsModel", "moves", "(I)I"⟩ ∈ gtbl := g_at 1873 (by decide +kernel) rfl
theorem L_Law_103 : Cond.methodLink "CornerMapsLaw" 103 ⟨"CornerMaps", "undo", "()I"⟩ ∈ gtbl := g_at 646 (by decide +kernel) rfl
theorem L_Law_106 : Cond.methodLink "CornerMapsLaw" 106 ⟨"CornerMapsModel", "undo", "()I"⟩ ∈ gtbl := g_at 1808 (by decide +kernel) rfl
theorem L_Law_107 : Cond.methodLink "CornerMapsLaw" 107 ⟨"CornerMaps", "image", "(IIIII)J"⟩ ∈ gtbl := g_at 659 (by decide +kernel) rfl
theorem L_Law_111 : Cond.methodLink "CornerMapsLaw" 111 ⟨"CornerMapsModel", "image", "(IIIII)J"⟩ ∈ gtbl := g_at 1886 (by decide +kernel) rfl
theorem L_Law_112 : Cond.methodLink "CornerMapsLaw" 112 ⟨"CornerMaps", "before", "(IIIII)J"⟩ ∈ gtbl := g_at 670 (by decide +kernel) rfl
theorem L_Law_115 : Cond.methodLink "CornerMapsLaw" 115 ⟨"CornerMapsModel", "before", "(IIIII)J"⟩ ∈ gtbl := g_at 1894 (by decide +kernel) rfl
theorem L_Law_116 : Cond.methodLink "CornerMapsLaw" 116 ⟨"CornerMaps", "line", "(IIIII)J"⟩ ∈ gtbl := g_at 675 (by decide +kernel) rfl
theorem L_Law_119 : Cond.methodLink "CornerMapsLaw" 119 ⟨"CornerMapsModel", "line", "(IIIII)J"⟩ ∈ gtbl := g_at 1899 (by decide +kernel) rfl
theorem L_Law_120 : Cond.methodLink "CornerMapsLaw" 120 ⟨"CornerMaps", "horizon", "(II)J"⟩ ∈ gtbl := g_at 682 (by decide +kernel) rfl
theorem L_Law_124 : Cond.methodLink "CornerMapsLaw" 124 ⟨"CornerMapsModel", "horizon", "(II)J"⟩ ∈ gtbl := g_at 1903 (by decide +kernel) rfl
theorem L_Law_125 : Cond.methodLink "CornerMapsLaw" 125 ⟨"CornerMaps", "vanishing", "(II)J"⟩ ∈ gtbl := g_at 688 (by decide +kernel) rfl
theorem L_Law_128 : Cond.methodLink "CornerMapsLaw" 128 ⟨"CornerMapsModel", "vanishing", "(II)J"⟩ ∈ gtbl := g_at 1907 (by decide +kernel) rfl
theorem L_Law_129 : Cond.methodLink "CornerMapsLaw" 129 ⟨"CornerMaps", "cut", "(III)I"⟩ ∈ gtbl := g_at 692 (by decide +kernel) rfl
theorem L_Law_132 : Cond.methodLink "CornerMapsLaw" 132 ⟨"CornerMapsModel", "cut", "(III)I"⟩ ∈ gtbl := g_at 1911 (by decide +kernel) rfl
theorem L_Law_133 : Cond.methodLink "CornerMapsLaw" 133 ⟨"CornerMaps", "cutSides", "(II)I"⟩ ∈ gtbl := g_at 713 (by decide +kernel) rfl
theorem L_Law_136 : Cond.methodLink "CornerMapsLaw" 136 ⟨"CornerMapsModel", "cutSides", "(II)I"⟩ ∈ gtbl := g_at 1922 (by decide +kernel) rfl
theorem L_Law_137 : Cond.methodLink "CornerMapsLaw" 137 ⟨"CornerMaps", "kind", "(I)I"⟩ ∈ gtbl := g_at 717 (by decide +kernel) rfl
theorem L_Law_140 : Cond.methodLink "CornerMapsLaw" 140 ⟨"CornerMapsModel", "kind", "(I)I"⟩ ∈ gtbl := g_at 1934 (by decide +kernel) rfl
theorem L_Law_141 : Cond.methodLink "CornerMapsLaw" 141 ⟨"CornerMaps", "turn", "(I)I"⟩ ∈ gtbl := g_at 724 (by decide +kernel) rfl
theorem L_Law_144 : Cond.methodLink "CornerMapsLaw" 144 ⟨"CornerMapsModel", "turn", "(I)I"⟩ ∈ gtbl := g_at 1946 (by decide +kernel) rfl
theorem L_Law_145 : Cond.methodLink "CornerMapsLaw" 145 ⟨"CornerMaps", "order", "(I)I"⟩ ∈ gtbl := g_at 733 (by decide +kernel) rfl
theorem L_Law_148 : Cond.methodLink "CornerMapsLaw" 148 ⟨"CornerMapsModel", "order", "(I)I"⟩ ∈ gtbl := g_at 1951 (by decide +kernel) rfl
theorem L_Law_149 : Cond.methodLink "CornerMapsLaw" 149 ⟨"CornerMaps", "same", "(II)I"⟩ ∈ gtbl := g_at 740 (by decide +kernel) rfl
theorem L_Law_152 : Cond.methodLink "CornerMapsLaw" 152 ⟨"CornerMapsModel", "same", "(II)I"⟩ ∈ gtbl := g_at 1955 (by decide +kernel) rfl
theorem L_Law_153 : Cond.methodLink "CornerMapsLaw" 153 ⟨"CornerMaps", "commute", "(II)I"⟩ ∈ gtbl := g_at 744 (by decide +kernel) rfl
theorem L_Law_156 : Cond.methodLink "CornerMapsLaw" 156 ⟨"CornerMapsModel", "commute", "(II)I"⟩ ∈ gtbl := g_at 1963 (by decide +kernel) rfl
theorem L_Law_157 : Cond.methodLink "CornerMapsLaw" 157 ⟨"CornerMaps", "undoes", "(II)I"⟩ ∈ gtbl := g_at 752 (by decide +kernel) rfl
theorem L_Law_160 : Cond.methodLink "CornerMapsLaw" 160 ⟨"CornerMapsModel", "undoes", "(II)I"⟩ ∈ gtbl := g_at 1967 (by decide +kernel) rfl
theorem L_Law_161 : Cond.methodLink "CornerMapsLaw" 161 ⟨"CornerMaps", "stays", "(II)I"⟩ ∈ gtbl := g_at 760 (by decide +kernel) rfl
theorem L_Law_164 : Cond.methodLink "CornerMapsLaw" 164 ⟨"CornerMapsModel", "stays", "(II)I"⟩ ∈ gtbl := g_at 1971 (by decide +kernel) rfl
theorem L_Law_165 : Cond.methodLink "CornerMapsLaw" 165 ⟨"CornerMaps", "points", "(II)I"⟩ ∈ gtbl := g_at 768 (by decide +kernel) rfl
theorem L_Law_168 : Cond.methodLink "CornerMapsLaw" 168 ⟨"CornerMapsModel", "points", "(II)I"⟩ ∈ gtbl := g_at 1979 (by decide +kernel) rfl
theorem L_Law_169 : Cond.methodLink "CornerMapsLaw" 169 ⟨"CornerMaps", "join", "(III)J"⟩ ∈ gtbl := g_at 777 (by decide +kernel) rfl
theorem L_Law_173 : Cond.methodLink "CornerMapsLaw" 173 ⟨"CornerMapsModel", "join", "(III)J"⟩ ∈ gtbl := g_at 1983 (by decide +kernel) rfl
theorem L_Law_174 : Cond.methodLink "CornerMapsLaw" 174 ⟨"CornerMaps", "inLine", "(III)I"⟩ ∈ gtbl := g_at 785 (by decide +kernel) rfl
theorem L_Law_177 : Cond.methodLink "CornerMapsLaw" 177 ⟨"CornerMapsModel", "inLine", "(III)I"⟩ ∈ gtbl := g_at 1998 (by decide +kernel) rfl
theorem L_Law_178 : Cond.methodLink "CornerMapsLaw" 178 ⟨"CornerMaps", "meet", "(IIIII)J"⟩ ∈ gtbl := g_at 794 (by decide +kernel) rfl
theorem L_Law_181 : Cond.methodLink "CornerMapsLaw" 181 ⟨"CornerMapsModel", "meet", "(IIIII)J"⟩ ∈ gtbl := g_at 2006 (by decide +kernel) rfl
theorem L_Law_182 : Cond.methodLink "CornerMapsLaw" 182 ⟨"CornerMaps", "share", "(IIIII)J"⟩ ∈ gtbl := g_at 802 (by decide +kernel) rfl
theorem L_Law_185 : Cond.methodLink "CornerMapsLaw" 185 ⟨"CornerMapsModel", "share", "(IIIII)J"⟩ ∈ gtbl := g_at 2010 (by decide +kernel) rfl
theorem L_Law_186 : Cond.methodLink "CornerMapsLaw" 186 ⟨"CornerMaps", "fourth", "(IIII)J"⟩ ∈ gtbl := g_at 828 (by decide +kernel) rfl
theorem L_Law_190 : Cond.methodLink "CornerMapsLaw" 190 ⟨"CornerMapsModel", "fourth", "(IIII)J"⟩ ∈ gtbl := g_at 2026 (by decide +kernel) rfl
theorem L_Law_191 : Cond.methodLink "CornerMapsLaw" 191 ⟨"CornerMaps", "track", "(IIII)J"⟩ ∈ gtbl := g_at 833 (by decide +kernel) rfl
theorem L_Law_194 : Cond.methodLink "CornerMapsLaw" 194 ⟨"CornerMapsModel", "track", "(IIII)J"⟩ ∈ gtbl := g_at 2030 (by decide +kernel) rfl
theorem L_Law_195 : Cond.methodLink "CornerMapsLaw" 195 ⟨"CornerMaps", "cycle", "(II)I"⟩ ∈ gtbl := g_at 845 (by decide +kernel) rfl
theorem L_Law_198 : Cond.methodLink "CornerMapsLaw" 198 ⟨"CornerMapsModel", "cycle", "(II)I"⟩ ∈ gtbl := g_at 2042 (by decide +kernel) rfl
theorem L_Law_199 : Cond.methodLink "CornerMapsLaw" 199 ⟨"CornerMaps", "whole", "(II)I"⟩ ∈ gtbl := g_at 849 (by decide +kernel) rfl
theorem L_Law_202 : Cond.methodLink "CornerMapsLaw" 202 ⟨"CornerMapsModel", "whole", "(II)I"⟩ ∈ gtbl := g_at 2054 (by decide +kernel) rfl
theorem L_Law_203 : Cond.methodLink "CornerMapsLaw" 203 ⟨"CornerMaps", "inside", "(II)I"⟩ ∈ gtbl := g_at 853 (by decide +kernel) rfl
theorem L_Law_206 : Cond.methodLink "CornerMapsLaw" 206 ⟨"CornerMapsModel", "inside", "(II)I"⟩ ∈ gtbl := g_at 2058 (by decide +kernel) rfl
theorem L_Law_207 : Cond.methodLink "CornerMapsLaw" 207 ⟨"CornerMaps", "crossings", "(II)I"⟩ ∈ gtbl := g_at 872 (by decide +kernel) rfl
theorem L_Law_210 : Cond.methodLink "CornerMapsLaw" 210 ⟨"CornerMapsModel", "crossings", "(II)I"⟩ ∈ gtbl := g_at 2075 (by decide +kernel) rfl
theorem L_Law_211 : Cond.methodLink "CornerMapsLaw" 211 ⟨"CornerMaps", "diagonal", "(III)J"⟩ ∈ gtbl := g_at 884 (by decide +kernel) rfl
theorem L_Law_214 : Cond.methodLink "CornerMapsLaw" 214 ⟨"CornerMapsModel", "diagonal", "(III)J"⟩ ∈ gtbl := g_at 2091 (by decide +kernel) rfl
theorem L_Law_215 : Cond.methodLink "CornerMapsLaw" 215 ⟨"CornerMaps", "parallel", "(II)I"⟩ ∈ gtbl := g_at 894 (by decide +kernel) rfl
theorem L_Law_218 : Cond.methodLink "CornerMapsLaw" 218 ⟨"CornerMapsModel", "parallel", "(II)I"⟩ ∈ gtbl := g_at 2103 (by decide +kernel) rfl
theorem L_Law_219 : Cond.methodLink "CornerMapsLaw" 219 ⟨"CornerMaps", "shapeBy", "(II)I"⟩ ∈ gtbl := g_at 898 (by decide +kernel) rfl
theorem L_Law_222 : Cond.methodLink "CornerMapsLaw" 222 ⟨"CornerMapsModel", "shapeBy", "(II)I"⟩ ∈ gtbl := g_at 2107 (by decide +kernel) rfl
theorem L_Law_223 : Cond.methodLink "CornerMapsLaw" 223 ⟨"CornerMaps", "symmetries", "(II)I"⟩ ∈ gtbl := g_at 911 (by decide +kernel) rfl
theorem L_Law_226 : Cond.methodLink "CornerMapsLaw" 226 ⟨"CornerMapsModel", "symmetries", "(II)I"⟩ ∈ gtbl := g_at 2119 (by decide +kernel) rfl
theorem L_Law_227 : Cond.methodLink "CornerMapsLaw" 227 ⟨"CornerMaps", "symmetry", "(II)I"⟩ ∈ gtbl := g_at 918 (by decide +kernel) rfl
theorem L_Law_230 : Cond.methodLink "CornerMapsLaw" 230 ⟨"CornerMapsModel", "symmetry", "(II)I"⟩ ∈ gtbl := g_at 2127 (by decide +kernel) rfl
theorem L_Law_231 : Cond.methodLink "CornerMapsLaw" 231 ⟨"CornerMaps", "word", "(II)I"⟩ ∈ gtbl := g_at 922 (by decide +kernel) rfl
theorem L_Law_234 : Cond.methodLink "CornerMapsLaw" 234 ⟨"CornerMapsModel", "word", "(II)I"⟩ ∈ gtbl := g_at 2131 (by decide +kernel) rfl
theorem L_Law_235 : Cond.methodLink "CornerMapsLaw" 235 ⟨"CornerMaps", "generated", "(I)I"⟩ ∈ gtbl := g_at 959 (by decide +kernel) rfl
theorem L_Law_238 : Cond.methodLink "CornerMapsLaw" 238 ⟨"CornerMapsModel", "generated", "(I)I"⟩ ∈ gtbl := g_at 2147 (by decide +kernel) rfl
theorem L_Law_239 : Cond.methodLink "CornerMapsLaw" 239 ⟨"CornerMaps", "leads", "(III)I"⟩ ∈ gtbl := g_at 971 (by decide +kernel) rfl
theorem L_Law_242 : Cond.methodLink "CornerMapsLaw" 242 ⟨"CornerMapsModel", "leads", "(III)I"⟩ ∈ gtbl := g_at 2050 (by decide +kernel) rfl
theorem L_Law_243 : Cond.methodLink "CornerMapsLaw" 243 ⟨"CornerMaps", "pull", "(IIIII)J"⟩ ∈ gtbl := g_at 975 (by decide +kernel) rfl
theorem L_Law_246 : Cond.methodLink "CornerMapsLaw" 246 ⟨"CornerMapsModel", "pull", "(IIIII)J"⟩ ∈ gtbl := g_at 2165 (by decide +kernel) rfl
theorem L_Law_247 : Cond.methodLink "CornerMapsLaw" 247 ⟨"CornerMaps", "keepsLine", "(IIII)I"⟩ ∈ gtbl := g_at 979 (by decide +kernel) rfl
theorem L_Law_251 : Cond.methodLink "CornerMapsLaw" 251 ⟨"CornerMapsModel", "keepsLine", "(IIII)I"⟩ ∈ gtbl := g_at 2173 (by decide +kernel) rfl
theorem L_Law_252 : Cond.methodLink "CornerMapsLaw" 252 ⟨"CornerMaps", "side", "(III)J"⟩ ∈ gtbl := g_at 983 (by decide +kernel) rfl
theorem L_Law_255 : Cond.methodLink "CornerMapsLaw" 255 ⟨"CornerMapsModel", "side", "(III)J"⟩ ∈ gtbl := g_at 2177 (by decide +kernel) rfl
theorem L_Law_256 : Cond.methodLink "CornerMapsLaw" 256 ⟨"CornerMaps", "turnOf", "(III)I"⟩ ∈ gtbl := g_at 990 (by decide +kernel) rfl
theorem L_Law_259 : Cond.methodLink "CornerMapsLaw" 259 ⟨"CornerMapsModel", "turnOf", "(III)I"⟩ ∈ gtbl := g_at 2181 (by decide +kernel) rfl
theorem L_Law_260 : Cond.methodLink "CornerMapsLaw" 260 ⟨"CornerMaps", "gap", "(III)J"⟩ ∈ gtbl := g_at 999 (by decide +kernel) rfl
theorem L_Law_263 : Cond.methodLink "CornerMapsLaw" 263 ⟨"CornerMapsModel", "gap", "(III)J"⟩ ∈ gtbl := g_at 2189 (by decide +kernel) rfl
theorem L_Law_264 : Cond.methodLink "CornerMapsLaw" 264 ⟨"CornerMaps", "middle", "(III)J"⟩ ∈ gtbl := g_at 1004 (by decide +kernel) rfl
theorem L_Law_267 : Cond.methodLink "CornerMapsLaw" 267 ⟨"CornerMapsModel", "middle", "(III)J"⟩ ∈ gtbl := g_at 2197 (by decide +kernel) rfl
theorem L_Law_268 : Cond.methodLink "CornerMapsLaw" 268 ⟨"CornerMaps", "partner", "(I)I"⟩ ∈ gtbl := g_at 1009 (by decide +kernel) rfl
theorem L_Law_271 : Cond.methodLink "CornerMapsLaw" 271 ⟨"CornerMapsModel", "partner", "(I)I"⟩ ∈ gtbl := g_at 2206 (by decide +kernel) rfl
theorem L_Law_272 : Cond.methodLink "CornerMapsLaw" 272 ⟨"CornerMaps", "cornerBy", "(IIII)J"⟩ ∈ gtbl := g_at 1013 (by decide +kernel) rfl
theorem L_Law_275 : Cond.methodLink "CornerMapsLaw" 275 ⟨"CornerMapsModel", "cornerBy", "(IIII)J"⟩ ∈ gtbl := g_at 2236 (by decide +kernel) rfl
theorem L_Law_276 : Cond.methodLink "CornerMapsLaw" 276 ⟨"CornerMaps", "scale", "(II)J"⟩ ∈ gtbl := g_at 1017 (by decide +kernel) rfl
theorem L_Law_279 : Cond.methodLink "CornerMapsLaw" 279 ⟨"CornerMapsModel", "scale", "(II)J"⟩ ∈ gtbl := g_at 2202 (by decide +kernel) rfl
theorem L_Law_280 : Cond.methodLink "CornerMapsLaw" 280 ⟨"CornerMaps", "likeness", "(III)I"⟩ ∈ gtbl := g_at 1021 (by decide +kernel) rfl
theorem L_Law_283 : Cond.methodLink "CornerMapsLaw" 283 ⟨"CornerMapsModel", "likeness", "(III)I"⟩ ∈ gtbl := g_at 2210 (by decide +kernel) rfl
theorem L_Law_284 : Cond.methodLink "CornerMapsLaw" 284 ⟨"CornerMaps", "hits", "(III)I"⟩ ∈ gtbl := g_at 1025 (by decide +kernel) rfl
theorem L_Law_287 : Cond.methodLink "CornerMapsLaw" 287 ⟨"CornerMapsModel", "hits", "(III)I"⟩ ∈ gtbl := g_at 2244 (by decide +kernel) rfl
theorem L_Law_288 : Cond.methodLink "CornerMapsLaw" 288 ⟨"CornerMaps", "goesTo", "(II)I"⟩ ∈ gtbl := g_at 1038 (by decide +kernel) rfl
theorem L_Law_291 : Cond.methodLink "CornerMapsLaw" 291 ⟨"CornerMapsModel", "goesTo", "(II)I"⟩ ∈ gtbl := g_at 2252 (by decide +kernel) rfl
theorem L_Law_292 : Cond.methodLink "CornerMapsLaw" 292 ⟨"CornerMaps", "farthest", "(I)J"⟩ ∈ gtbl := g_at 1042 (by decide +kernel) rfl
theorem L_Law_296 : Cond.methodLink "CornerMapsLaw" 296 ⟨"CornerMapsModel", "farthest", "(I)J"⟩ ∈ gtbl := g_at 2256 (by decide +kernel) rfl
theorem L_Law_297 : Cond.methodLink "CornerMapsLaw" 297 ⟨"CornerMaps", "biggest", "(I)I"⟩ ∈ gtbl := g_at 1047 (by decide +kernel) rfl
theorem L_Law_300 : Cond.methodLink "CornerMapsLaw" 300 ⟨"CornerMapsModel", "biggest", "(I)I"⟩ ∈ gtbl := g_at 2214 (by decide +kernel) rfl
theorem L_Law_301 : Cond.methodLink "CornerMapsLaw" 301 ⟨"CornerMaps", "kinds", "(I)I"⟩ ∈ gtbl := g_at 1051 (by decide +kernel) rfl
theorem L_Law_304 : Cond.methodLink "CornerMapsLaw" 304 ⟨"CornerMapsModel", "kinds", "(I)I"⟩ ∈ gtbl := g_at 2222 (by decide +kernel) rfl
theorem L_Law_305 : Cond.methodLink "CornerMapsLaw" 305 ⟨"CornerMaps", "pairs", "(I)I"⟩ ∈ gtbl := g_at 1055 (by decide +kernel) rfl
theorem L_Law_308 : Cond.methodLink "CornerMapsLaw" 308 ⟨"CornerMapsModel", "pairs", "(I)I"⟩ ∈ gtbl := g_at 2226 (by decide +kernel) rfl
theorem L_Law_309 : Cond.methodLink "CornerMapsLaw" 309 ⟨"CornerMaps", "spell", "(II)I"⟩ ∈ gtbl := g_at 1063 (by decide +kernel) rfl
theorem L_Law_312 : Cond.methodLink "CornerMapsLaw" 312 ⟨"CornerMapsModel", "spell", "(II)I"⟩ ∈ gtbl := g_at 2155 (by decide +kernel) rfl
theorem L_Law_313 : Cond.methodLink "CornerMapsLaw" 313 ⟨"CornerMaps", "kept", "(I)I"⟩ ∈ gtbl := g_at 1416 (by decide +kernel) rfl
theorem L_Law_316 : Cond.methodLink "CornerMapsLaw" 316 ⟨"CornerMapsModel", "kept", "(I)I"⟩ ∈ gtbl := g_at 1930 (by decide +kernel) rfl
theorem L_Law_317 : Cond.methodLink "CornerMapsLaw" 317 ⟨"CornerMaps", "find", "(II)I"⟩ ∈ gtbl := g_at 1420 (by decide +kernel) rfl
theorem L_Law_320 : Cond.methodLink "CornerMapsLaw" 320 ⟨"CornerMapsModel", "find", "(II)I"⟩ ∈ gtbl := g_at 2260 (by decide +kernel) rfl
theorem L_Law_321 : Cond.methodLink "CornerMapsLaw" 321 ⟨"CornerMaps", "size", "(I)I"⟩ ∈ gtbl := g_at 1424 (by decide +kernel) rfl
theorem L_Law_324 : Cond.methodLink "CornerMapsLaw" 324 ⟨"CornerMapsModel", "size", "(I)I"⟩ ∈ gtbl := g_at 2264 (by decide +kernel) rfl
theorem L_Law_325 : Cond.methodLink "CornerMapsLaw" 325 ⟨"CornerMaps", "count", "(I)I"⟩ ∈ gtbl := g_at 1428 (by decide +kernel) rfl
theorem L_Law_328 : Cond.methodLink "CornerMapsLaw" 328 ⟨"CornerMapsModel", "count", "(I)I"⟩ ∈ gtbl := g_at 2268 (by decide +kernel) rfl
theorem F_Law_law_0 : Jvm.Free.DS.Facts code 0 [(.new 8, 3), (.dup, 1), (.invokespecial 24, 3), (.astore_n 1, 1), (.new 25, 3), (.dup, 1), (.invokespecial 27, 3), (.astore_n 2, 1), (.iconst 1, 1), (.newarray .long, 2), (.astore_n 3, 1), (.iconst 0, 1), (.istore 4, 2), (.iload 4, 2), (.aload_n 0, 1), (.arraylength, 1), (.bipush (6), 2), (.isub, 1), (.if_icmp .gt (3347), 3), (.aload_n 0, 1), (.iload 4, 2), (.iaload, 1), (.bipush (127), 2), (.iand, 1)] := Jvm.Free.DS.facts 0 _ (by decide +kernel) (by decide +kernel)
theorem d_Law_law_0 : decode code 0 = .ok (.new 8, 3) := F_Law_law_0.1
theorem d_Law_law_3 : decode code 3 = .ok (.dup, 1) := F_Law_law_0.2.1
theorem d_Law_law_4 : decode code 4 = .ok (.invokespecial 24, 3) := F_Law_law_0.2.2.1
theorem d_Law_law_7 : decode code 7 = .ok (.astore_n 1, 1) := F_Law_law_0.2.2.2.1
theorem d_Law_law_8 : decode code 8 = .ok (.new 25, 3) := F_Law_law_0.2.2.2.2.1
theorem d_Law_law_11 : decode code 11 = .ok (.dup, 1) := F_Law_law_0.2.2.2.2.2.1
theorem d_Law_law_12 : decode code 12 = .ok (.invokespecial 27, 3) := F_Law_law_0.2.2.2.2.2.2.1
theorem d_Law_law_15 : decode code 15 = .ok (.astore_n 2, 1) := F_Law_law_0.2.2.2.2.2.2.2.1
theorem d_Law_law_16 : decode code 16 = .ok (.iconst 1, 1) := F_Law_law_0.2.2.2.2.2.2.2.2.1
theorem d_Law_law_17 : decode code 17 = .ok (.newarray .long, 2) := F_Law_law_0.2.2.2.2.2.2.2.2.2.1
theorem d_Law_law_19 : decode code 19 = .ok (.astore_n 3, 1) := F_Law_law_0.2.2.2.2.2.2.2.2.2.2.1
theorem d_Law_law_20 : decode code 20 = .ok (.iconst 0, 1) := F_Law_law_0.2.2.2.2.2.2.2.2.2.2.2.1
theorem d_Law_law_21 : decode code 21 = .ok (.istore 4, 2) := F_Law_law_0.2.2.2.2.2.2.2.2.2.2.2.2.1
theorem d_Law_law_23 : decode code 23 = .ok (.iload 4, 2) := F_Law_law_0.2.2.2.2.2.2.2.2.2.2.2.2.2.1
theorem d_Law_law_25 : decode code 25 = .ok (.aload_n 0, 1) := F_Law_law_0.2.2.2.2.2.2.2.2.2.2.2.2.2.2.1
theorem d_Law_law_26 : decode code 26 = .ok (.arraylength, 1) := F_Law_law_0.2.2.2.2.2.2.2.2.2.2.2.2.2.2.2.1
theorem d_Law_law_27 : decode code 27 = .ok (.bipush (6), 2) := F_Law_law_0.2.2.2.2.2.2.2.2.2.2.2.2.2.2.2.2.1
theorem d_Law_law_29 : decode code 29 = .ok (.isub, 1) := F_Law_law_0.2.2.2.2.2.2.2.2.2.2.2.2.2.2.2.2.2.1
theorem d_Law_law_30 : decode code 30 = .ok (.if_icmp .gt (3347), 3) := F_Law_law_0.2.2.2.2.2.2.2.2.2.2.2.2.2.2.2.2.2.2.1
theorem d_Law_law_33 : decode code 33 = .ok (.aload_n 0, 1) := F_Law_law_0.2.2.2.2.2.2.2.2.2.2.2.2.2.2.2.2.2.2.2.1
theorem d_Law_law_34 : decode code 34 = .ok (.iload 4, 2) := F_Law_law_0.2.2.2.2.2.2.2.2.2.2.2.2.2.2.2.2.2.2.2.2.1
theorem d_Law_law_36 : decode code 36 = .ok (.iaload, 1) := F_Law_law_0.2.2.2.2.2.2.2.2.2.2.2.2.2.2.2.2.2.2.2.2.2.1
theorem d_Law_law_37 : decode code 37 = .ok (.bipush (127), 2) := F_Law_law_0.2.2.2.2.2.2.2.2.2.2.2.2.2.2.2.2.2.2.2.2.2.2.1
theorem d_Law_law_39 : decode code 39 = .ok (.iand, 1) := F_Law_law_0.2.2.2.2.2.2.2.2.2.2.2.2.2.2.2.2.2.2.2.2.2.2.2.1
theorem F_Law_law_344 : Jvm.Free.DS.Facts code 344 [(.aload_n 1, 1), (.aload_n 0, 1), (.iload 4, 2), (.iconst 1, 1), (.iadd, 1), (.iaload, 1), (.aload_n 0, 1), (.iload 4, 2), (.iconst 2, 1), (.iadd, 1), (.iaload, 1), (.aload_n 0, 1), (.iload 4, 2), (.iconst 3, 1), (.iadd, 1), (.iaload, 1), (.aload_n 0, 1), (.iload 4, 2), (.iconst 4, 1), (.iadd, 1), (.iaload, 1), (.aload_n 0, 1), (.iload 4, 2), (.iconst 5, 1), (.iadd, 1), (.iaload, 1), (.invokevirtual 28, 3), (.aload_n 2, 1), (.aload_n 0, 1), (.iload 4, 2), (.iconst 1, 1), (.iadd, 1)] := Jvm.Free.DS.facts 344 _ (by decide +kernel) (by decide +kernel)
theorem d_Law_law_344 : decode code 344 = .ok (.aload_n 1, 1) := F_Law_law_344.1
theorem d_Law_law_345 : decode code 345 = .ok (.aload_n 0, 1) := F_Law_law_344.2.1
theorem d_Law_law_346 : decode code 346 = .ok (.iload 4, 2) := F_Law_law_344.2.2.1
theorem d_Law_law_348 : decode code 348 = .ok (.iconst 1, 1) := F_Law_law_344.2.2.2.1
theorem d_Law_law_349 : decode code 349 = .ok (.iadd, 1) := F_Law_law_344.2.2.2.2.1
theorem d_Law_law_350 : decode code 350 = .ok (.iaload, 1) := F_Law_law_344.2.2.2.2.2.1
theorem d_Law_law_351 : decode code 351 = .ok (.aload_n 0, 1) := F_Law_law_344.2.2.2.2.2.2.1
theorem d_Law_law_352 : decode code 352 = .ok (.iload 4, 2) := F_Law_law_344.2.2.2.2.2.2.2.1
theorem d_Law_law_354 : decode code 354 = .ok (.iconst 2, 1) := F_Law_law_344.2.2.2.2.2.2.2.2.1
theorem d_Law_law_355 : decode code 355 = .ok (.iadd, 1) := F_Law_law_344.2.2.2.2.2.2.2.2.2.1
theorem d_Law_law_356 : decode code 356 = .ok (.iaload, 1) := F_Law_law_344.2.2.2.2.2.2.2.2.2.2.1
theorem d_Law_law_357 : decode code 357 = .ok (.aload_n 0, 1) := F_Law_law_344.2.2.2.2.2.2.2.2.2.2.2.1
theorem d_Law_law_358 : decode code 358 = .ok (.iload 4, 2) := F_Law_law_344.2.2.2.2.2.2.2.2.2.2.2.2.1
theorem d_Law_law_360 : decode code 360 = .ok (.iconst 3, 1) := F_Law_law_344.2.2.2.2.2.2.2.2.2.2.2.2.2.1
theorem d_Law_law_361 : decode code 361 = .ok (.iadd, 1) := F_Law_law_344.2.2.2.2.2.2.2.2.2.2.2.2.2.2.1
theorem d_Law_law_362 : decode code 362 = .ok (.iaload, 1) := F_Law_law_344.2.2.2.2.2.2.2.2.2.2.2.2.2.2.2.1
theorem d_Law_law_363 : decode code 363 = .ok (.aload_n 0, 1) := F_Law_law_344.2.2.2.2.2.2.2.2.2.2.2.2.2.2.2.2.1
theorem d_Law_law_364 : decode code 364 = .ok (.iload 4, 2) := F_Law_law_344.2.2.2.2.2.2.2.2.2.2.2.2.2.2.2.2.2.1
theorem d_Law_law_366 : decode code 366 = .ok (.iconst 4, 1) := F_Law_law_344.2.2.2.2.2.2.2.2.2.2.2.2.2.2.2.2.2.2.1
theorem d_Law_law_367 : decode code 367 = .ok (.iadd, 1) := F_Law_law_344.2.2.2.2.2.2.2.2.2.2.2.2.2.2.2.2.2.2.2.1
theorem d_Law_law_368 : decode code 368 = .ok (.iaload, 1) := F_Law_law_344.2.2.2.2.2.2.2.2.2.2.2.2.2.2.2.2.2.2.2.2.1
theorem d_Law_law_369 : decode code 369 = .ok (.aload_n 0, 1) := F_Law_law_344.2.2.2.2.2.2.2.2.2.2.2.2.2.2.2.2.2.2.2.2.2.1
theorem d_Law_law_370 : decode code 370 = .ok (.iload 4, 2) := F_Law_law_344.2.2.2.2.2.2.2.2.2.2.2.2.2.2.2.2.2.2.2.2.2.2.1
theorem d_Law_law_372 : decode code 372 = .ok (.iconst 5, 1) := F_Law_law_344.2.2.2.2.2.2.2.2.2.2.2.2.2.2.2.2.2.2.2.2.2.2.2.1
theorem d_Law_law_373 : decode code 373 = .ok (.iadd, 1) := F_Law_law_344.2.2.2.2.2.2.2.2.2.2.2.2.2.2.2.2.2.2.2.2.2.2.2.2.1
theorem d_Law_law_374 : decode code 374 = .ok (.iaload, 1) := F_Law_law_344.2.2.2.2.2.2.2.2.2.2.2.2.2.2.2.2.2.2.2.2.2.2.2.2.2.1
theorem d_Law_law_375 : decode code 375 = .ok (.invokevirtual 28, 3) := F_Law_law_344.2.2.2.2.2.2.2.2.2.2.2.2.2.2.2.2.2.2.2.2.2.2.2.2.2.2.1
theorem d_Law_law_378 : decode code 378 = .ok (.aload_n 2, 1) := F_Law_law_344.2.2.2.2.2.2.2.2.2.2.2.2.2.2.2.2.2.2.2.2.2.2.2.2.2.2.2.1
theorem d_Law_law_379 : decode code 379 = .ok (.aload_n 0, 1) := F_Law_law_344.2.2.2.2.2.2.2.2.2.2.2.2.2.2.2.2.2.2.2.2.2.2.2.2.2.2.2.2.1
theorem d_Law_law_380 : decode code 380 = .ok (.iload 4, 2) := F_Law_law_344.2.2.2.2.2.2.2.2.2.2.2.2.2.2.2.2.2.2.2.2.2.2.2.2.2.2.2.2.2.1
theorem d_Law_law_382 : decode code 382 = .ok (.iconst 1, 1) := F_Law_law_344.2.2.2.2.2.2.2.2.2.2.2.2.2.2.2.2.2.2.2.2.2.2.2.2.2.2.2.2.2.2.1
theorem d_Law_law_383 : decode code 383 = .ok (.iadd, 1) := F_Law_law_344.2.2.2.2.2.2.2.2.2.2.2.2.2.2.2.2.2.2.2.2.2.2.2.2.2.2.2.2.2.2.2.1
theorem F_Law_law_384 : Jvm.Free.DS.Facts code 384 [(.iaload, 1), (.aload_n 0, 1), (.iload 4, 2), (.iconst 2, 1), (.iadd, 1), (.iaload, 1), (.aload_n 0, 1), (.iload 4, 2), (.iconst 3, 1), (.iadd, 1), (.iaload, 1), (.aload_n 0, 1), (.iload 4, 2), (.iconst 4, 1), (.iadd, 1), (.iaload, 1), (.aload_n 0, 1), (.iload 4, 2), (.iconst 5, 1), (.iadd, 1), (.iaload, 1), (.invokevirtual 32, 3), (.if_icmp .eq (2959), 3)] := Jvm.Free.DS.facts 384 _ (by decide +kernel) (by decide +kernel)
theorem d_Law_law_384 : decode code 384 = .ok (.iaload, 1) := F_Law_law_384.1
theorem d_Law_law_385 : decode code 385 = .ok (.aload_n 0, 1) := F_Law_law_384.2.1
theorem d_Law_law_386 : decode code 386 = .ok (.iload 4, 2) := F_Law_law_384.2.2.1
theorem d_Law_law_388 : decode code 388 = .ok (.iconst 2, 1) := F_Law_law_384.2.2.2.1
theorem d_Law_law_389 : decode code 389 = .ok (.iadd, 1) := F_Law_law_384.2.2.2.2.1
theorem d_Law_law_390 : decode code 390 = .ok (.iaload, 1) := F_Law_law_384.2.2.2.2.2.1
theorem d_Law_law_391 : decode code 391 = .ok (.aload_n 0, 1) := F_Law_law_384.2.2.2.2.2.2.1
theorem d_Law_law_392 : decode code 392 = .ok (.iload 4, 2) := F_Law_law_384.2.2.2.2.2.2.2.1
theorem d_Law_law_394 : decode code 394 = .ok (.iconst 3, 1) := F_Law_law_384.2.2.2.2.2.2.2.2.1
theorem d_Law_law_395 : decode code 395 = .ok (.iadd, 1) := F_Law_law_384.2.2.2.2.2.2.2.2.2.1
theorem d_Law_law_396 : decode code 396 = .ok (.iaload, 1) := F_Law_law_384.2.2.2.2.2.2.2.2.2.2.1
theorem d_Law_law_397 : decode code 397 = .ok (.aload_n 0, 1) := F_Law_law_384.2.2.2.2.2.2.2.2.2.2.2.1
theorem d_Law_law_398 : decode code 398 = .ok (.iload 4, 2) := F_Law_law_384.2.2.2.2.2.2.2.2.2.2.2.2.1
theorem d_Law_law_400 : decode code 400 = .ok (.iconst 4, 1) := F_Law_law_384.2.2.2.2.2.2.2.2.2.2.2.2.2.1
theorem d_Law_law_401 : decode code 401 = .ok (.iadd, 1) := F_Law_law_384.2.2.2.2.2.2.2.2.2.2.2.2.2.2.1
theorem d_Law_law_402 : decode code 402 = .ok (.iaload, 1) := F_Law_law_384.2.2.2.2.2.2.2.2.2.2.2.2.2.2.2.1
theorem d_Law_law_403 : decode code 403 = .ok (.aload_n 0, 1) := F_Law_law_384.2.2.2.2.2.2.2.2.2.2.2.2.2.2.2.2.1
theorem d_Law_law_404 : decode code 404 = .ok (.iload 4, 2) := F_Law_law_384.2.2.2.2.2.2.2.2.2.2.2.2.2.2.2.2.2.1
theorem d_Law_law_406 : decode code 406 = .ok (.iconst 5, 1) := F_Law_law_384.2.2.2.2.2.2.2.2.2.2.2.2.2.2.2.2.2.2.1
theorem d_Law_law_407 : decode code 407 = .ok (.iadd, 1) := F_Law_law_384.2.2.2.2.2.2.2.2.2.2.2.2.2.2.2.2.2.2.2.1
theorem d_Law_law_408 : decode code 408 = .ok (.iaload, 1) := F_Law_law_384.2.2.2.2.2.2.2.2.2.2.2.2.2.2.2.2.2.2.2.2.1
theorem d_Law_law_409 : decode code 409 = .ok (.invokevirtual 32, 3) := F_Law_law_384.2.2.2.2.2.2.2.2.2.2.2.2.2.2.2.2.2.2.2.2.2.1
theorem d_Law_law_412 : decode code 412 = .ok (.if_icmp .eq (2959), 3) := F_Law_law_384.2.2.2.2.2.2.2.2.2.2.2.2.2.2.2.2.2.2.2.2.2.2.1
theorem F_Law_law_417 : Jvm.Free.DS.Facts code 417 [(.aload_n 1, 1), (.aload_n 0, 1), (.iload 4, 2), (.iconst 1, 1), (.iadd, 1), (.iaload, 1), (.invokevirtual 33, 3), (.aload_n 2, 1), (.aload_n 0, 1), (.iload 4, 2), (.iconst 1, 1), (.iadd, 1), (.iaload, 1), (.invokevirtual 37, 3), (.if_icmp .eq (2934), 3)] := Jvm.Free.DS.facts 417 _ (by decide +kernel) (by decide +kernel)
theorem d_Law_law_417 : decode code 417 = .ok (.aload_n 1, 1) := F_Law_law_417.1
theorem d_Law_law_418 : decode code 418 = .ok (.aload_n 0, 1) := F_Law_law_417.2.1
theorem d_Law_law_419 : decode code 419 = .ok (.iload 4, 2) := F_Law_law_417.2.2.1
theorem d_Law_law_421 : decode code 421 = .ok (.iconst 1, 1) := F_Law_law_417.2.2.2.1
theorem d_Law_law_422 : decode code 422 = .ok (.iadd, 1) := F_Law_law_417.2.2.2.2.1
theorem d_Law_law_423 : decode code 423 = .ok (.iaload, 1) := F_Law_law_417.2.2.2.2.2.1
theorem d_Law_law_424 : decode code 424 = .ok (.invokevirtual 33, 3) := F_Law_law_417.2.2.2.2.2.2.1
theorem d_Law_law_427 : decode code 427 = .ok (.aload_n 2, 1) := F_Law_law_417.2.2.2.2.2.2.2.1
theorem d_Law_law_428 : decode code 428 = .ok (.aload_n 0, 1) := F_Law_law_417.2.2.2.2.2.2.2.2.1
theorem d_Law_law_429 : decode code 429 = .ok (.iload 4, 2) := F_Law_law_417.2.2.2.2.2.2.2.2.2.1
theorem d_Law_law_431 : decode code 431 = .ok (.iconst 1, 1) := F_Law_law_417.2.2.2.2.2.2.2.2.2.2.1
theorem d_Law_law_432 : decode code 432 = .ok (.iadd, 1) := F_Law_law_417.2.2.2.2.2.2.2.2.2.2.2.1
theorem d_Law_law_433 : decode code 433 = .ok (.iaload, 1) := F_Law_law_417.2.2.2.2.2.2.2.2.2.2.2.2.1
theorem d_Law_law_434 : decode code 434 = .ok (.invokevirtual 37, 3) := F_Law_law_417.2.2.2.2.2.2.2.2.2.2.2.2.2.1
theorem d_Law_law_437 : decode code 437 = .ok (.if_icmp .eq (2934), 3) := F_Law_law_417.2.2.2.2.2.2.2.2.2.2.2.2.2.2.1
theorem F_Law_law_442 : Jvm.Free.DS.Facts code 442 [(.aload_n 1, 1), (.aload_n 0, 1), (.iload 4, 2), (.iconst 1, 1), (.iadd, 1), (.iaload, 1), (.invokevirtual 38, 3), (.aload_n 2, 1), (.aload_n 0, 1), (.iload 4, 2), (.iconst 1, 1), (.iadd, 1), (.iaload, 1), (.invokevirtual 41, 3), (.if_icmp .eq (2909), 3)] := Jvm.Free.DS.facts 442 _ (by decide +kernel) (by decide +kernel)
theorem d_Law_law_442 : decode code 442 = .ok (.aload_n 1, 1) := F_Law_law_442.1
theorem d_Law_law_443 : decode code 443 = .ok (.aload_n 0, 1) := F_Law_law_442.2.1
theorem d_Law_law_444 : decode code 444 = .ok (.iload 4, 2) := F_Law_law_442.2.2.1
theorem d_Law_law_446 : decode code 446 = .ok (.iconst 1, 1) := F_Law_law_442.2.2.2.1
theorem d_Law_law_447 : decode code 447 = .ok (.iadd, 1) := F_Law_law_442.2.2.2.2.1
theorem d_Law_law_448 : decode code 448 = .ok (.iaload, 1) := F_Law_law_442.2.2.2.2.2.1
theorem d_Law_law_449 : decode code 449 = .ok (.invokevirtual 38, 3) := F_Law_law_442.2.2.2.2.2.2.1
theorem d_Law_law_452 : decode code 452 = .ok (.aload_n 2, 1) := F_Law_law_442.2.2.2.2.2.2.2.1
theorem d_Law_law_453 : decode code 453 = .ok (.aload_n 0, 1) := F_Law_law_442.2.2.2.2.2.2.2.2.1
theorem d_Law_law_454 : decode code 454 = .ok (.iload 4, 2) := F_Law_law_442.2.2.2.2.2.2.2.2.2.1
theorem d_Law_law_456 : decode code 456 = .ok (.iconst 1, 1) := F_Law_law_442.2.2.2.2.2.2.2.2.2.2.1
theorem d_Law_law_457 : decode code 457 = .ok (.iadd, 1) := F_Law_law_442.2.2.2.2.2.2.2.2.2.2.2.1
theorem d_Law_law_458 : decode code 458 = .ok (.iaload, 1) := F_Law_law_442.2.2.2.2.2.2.2.2.2.2.2.2.1
theorem d_Law_law_459 : decode code 459 = .ok (.invokevirtual 41, 3) := F_Law_law_442.2.2.2.2.2.2.2.2.2.2.2.2.2.1
theorem d_Law_law_462 : decode code 462 = .ok (.if_icmp .eq (2909), 3) := F_Law_law_442.2.2.2.2.2.2.2.2.2.2.2.2.2.2.1
theorem F_Law_law_467 : Jvm.Free.DS.Facts code 467 [(.aload_n 1, 1), (.aload_n 0, 1), (.iload 4, 2), (.iconst 1, 1), (.iadd, 1), (.iaload, 1), (.aload_n 0, 1), (.iload 4, 2), (.iconst 2, 1), (.iadd, 1), (.iaload, 1), (.aload_n 0, 1), (.iload 4, 2), (.iconst 3, 1), (.iadd, 1), (.iaload, 1), (.aload_n 3, 1), (.invokestatic 42, 3), (.istore 5, 2), (.aload_n 2, 1), (.aload_n 0, 1), (.iload 4, 2), (.iconst 1, 1), (.iadd, 1), (.iaload, 1), (.aload_n 0, 1), (.iload 4, 2), (.iconst 2, 1), (.iadd, 1), (.iaload, 1), (.aload_n 0, 1), (.iload 4, 2)] := Jvm.Free.DS.facts 467 _ (by decide +kernel) (by decide +kernel)
theorem d_Law_law_467 : decode code 467 = .ok (.aload_n 1, 1) := F_Law_law_467.1
theorem d_Law_law_468 : decode code 468 = .ok (.aload_n 0, 1) := F_Law_law_467.2.1
theorem d_Law_law_469 : decode code 469 = .ok (.iload 4, 2) := F_Law_law_467.2.2.1
theorem d_Law_law_471 : decode code 471 = .ok (.iconst 1, 1) := F_Law_law_467.2.2.2.1
theorem d_Law_law_472 : decode code 472 = .ok (.iadd, 1) := F_Law_law_467.2.2.2.2.1
theorem d_Law_law_473 : decode code 473 = .ok (.iaload, 1) := F_Law_law_467.2.2.2.2.2.1
theorem d_Law_law_474 : decode code 474 = .ok (.aload_n 0, 1) := F_Law_law_467.2.2.2.2.2.2.1
theorem d_Law_law_475 : decode code 475 = .ok (.iload 4, 2) := F_Law_law_467.2.2.2.2.2.2.2.1
theorem d_Law_law_477 : decode code 477 = .ok (.iconst 2, 1) := F_Law_law_467.2.2.2.2.2.2.2.2.1
theorem d_Law_law_478 : decode code 478 = .ok (.iadd, 1) := F_Law_law_467.2.2.2.2.2.2.2.2.2.1
theorem d_Law_law_479 : decode code 479 = .ok (.iaload, 1) := F_Law_law_467.2.2.2.2.2.2.2.2.2.2.1
theorem d_Law_law_480 : decode code 480 = .ok (.aload_n 0, 1) := F_Law_law_467.2.2.2.2.2.2.2.2.2.2.2.1
theorem d_Law_law_481 : decode code 481 = .ok (.iload 4, 2) := F_Law_law_467.2.2.2.2.2.2.2.2.2.2.2.2.1
theorem d_Law_law_483 : decode code 483 = .ok (.iconst 3, 1) := F_Law_law_467.2.2.2.2.2.2.2.2.2.2.2.2.2.1
theorem d_Law_law_484 : decode code 484 = .ok (.iadd, 1) := F_Law_law_467.2.2.2.2.2.2.2.2.2.2.2.2.2.2.1
theorem d_Law_law_485 : decode code 485 = .ok (.iaload, 1) := F_Law_law_467.2.2.2.2.2.2.2.2.2.2.2.2.2.2.2.1
theorem d_Law_law_486 : decode code 486 = .ok (.aload_n 3, 1) := F_Law_law_467.2.2.2.2.2.2.2.2.2.2.2.2.2.2.2.2.1
theorem d_Law_law_487 : decode code 487 = .ok (.invokestatic 42, 3) := F_Law_law_467.2.2.2.2.2.2.2.2.2.2.2.2.2.2.2.2.2.1
theorem d_Law_law_490 : decode code 490 = .ok (.istore 5, 2) := F_Law_law_467.2.2.2.2.2.2.2.2.2.2.2.2.2.2.2.2.2.2.1
theorem d_Law_law_492 : decode code 492 = .ok (.aload_n 2, 1) := F_Law_law_467.2.2.2.2.2.2.2.2.2.2.2.2.2.2.2.2.2.2.2.1
theorem d_Law_law_493 : decode code 493 = .ok (.aload_n 0, 1) := F_Law_law_467.2.2.2.2.2.2.2.2.2.2.2.2.2.2.2.2.2.2.2.2.1
theorem d_Law_law_494 : decode code 494 = .ok (.iload 4, 2) := F_Law_law_467.2.2.2.2.2.2.2.2.2.2.2.2.2.2.2.2.2.2.2.2.2.1
theorem d_Law_law_496 : decode code 496 = .ok (.iconst 1, 1) := F_Law_law_467.2.2.2.2.2.2.2.2.2.2.2.2.2.2.2.2.2.2.2.2.2.2.1
theorem d_Law_law_497 : decode code 497 = .ok (.iadd, 1) := F_Law_law_467.2.2.2.2.2.2.2.2.2.2.2.2.2.2.2.2.2.2.2.2.2.2.2.1
theorem d_Law_law_498 : decode code 498 = .ok (.iaload, 1) := F_Law_law_467.2.2.2.2.2.2.2.2.2.2.2.2.2.2.2.2.2.2.2.2.2.2.2.2.1
theorem d_Law_law_499 : decode code 499 = .ok (.aload_n 0, 1) := F_Law_law_467.2.2.2.2.2.2.2.2.2.2.2.2.2.2.2.2.2.2.2.2.2.2.2.2.2.1
theorem d_Law_law_500 : decode code 500 = .ok (.iload 4, 2) := F_Law_law_467.2.2.2.2.2.2.2.2.2.2.2.2.2.2.2.2.2.2.2.2.2.2.2.2.2.2.1
theorem d_Law_law_502 : decode code 502 = .ok (.iconst 2, 1) := F_Law_law_467.2.2.2.2.2.2.2.2.2.2.2.2.2.2.2.2.2.2.2.2.2.2.2.2.2.2.2.1
theorem d_Law_law_503 : decode code 503 = .ok (.iadd, 1) := F_Law_law_467.2.2.2.2.2.2.2.2.2.2.2.2.2.2.2.2.2.2.2.2.2.2.2.2.2.2.2.2.1
theorem d_Law_law_504 : decode code 504 = .ok (.iaload, 1) := F_Law_law_467.2.2.2.2.2.2.2.2.2.2.2.2.2.2.2.2.2.2.2.2.2.2.2.2.2.2.2.2.2.1
theorem d_Law_law_505 : decode code 505 = .ok (.aload_n 0, 1) := F_Law_law_467.2.2.2.2.2.2.2.2.2.2.2.2.2.2.2.2.2.2.2.2.2.2.2.2.2.2.2.2.2.2.1
theorem d_Law_law_506 : decode code 506 = .ok (.iload 4, 2) := F_Law_law_467.2.2.2.2.2.2.2.2.2.2.2.2.2.2.2.2.2.2.2.2.2.2.2.2.2.2.2.2.2.2.2.1
theorem F_Law_law_508 : Jvm.Free.DS.Facts code 508 [(.iconst 3, 1), (.iadd, 1), (.iaload, 1), (.invokevirtual 47, 3), (.istore 6, 2), (.aload_n 2, 1), (.invokevirtual 48, 3), (.iload 5, 2), (.if_icmp .eq (5), 3)] := Jvm.Free.DS.facts 508 _ (by decide +kernel) (by decide +kernel)
theorem d_Law_law_508 : decode code 508 = .ok (.iconst 3, 1) := F_Law_law_508.1
theorem d_Law_law_509 : decode code 509 = .ok (.iadd, 1) := F_Law_law_508.2.1
theorem d_Law_law_510 : decode code 510 = .ok (.iaload, 1) := F_Law_law_508.2.2.1
theorem d_Law_law_511 : decode code 511 = .ok (.invokevirtual 47, 3) := F_Law_law_508.2.2.2.1
theorem d_Law_law_514 : decode code 514 = .ok (.istore 6, 2) := F_Law_law_508.2.2.2.2.1
theorem d_Law_law_516 : decode code 516 = .ok (.aload_n 2, 1) := F_Law_law_508.2.2.2.2.2.1
theorem d_Law_law_517 : decode code 517 = .ok (.invokevirtual 48, 3) := F_Law_law_508.2.2.2.2.2.2.1
theorem d_Law_law_520 : decode code 520 = .ok (.iload 5, 2) := F_Law_law_508.2.2.2.2.2.2.2.1
theorem d_Law_law_522 : decode code 522 = .ok (.if_icmp .eq (5), 3) := F_Law_law_508.2.2.2.2.2.2.2.2.1
theorem F_Law_law_527 : Jvm.Free.DS.Facts code 527 [(.iload 5, 2), (.ifCond .ne (15), 3)] := Jvm.Free.DS.facts 527 _ (by decide +kernel) (by decide +kernel)
theorem d_Law_law_527 : decode code 527 = .ok (.iload 5, 2) := F_Law_law_527.1
theorem d_Law_law_529 : decode code 529 = .ok (.ifCond .ne (15), 3) := F_Law_law_527.2.1
theorem F_Law_law_544 : Jvm.Free.DS.Facts code 544 [(.goto (2827), 3), (.aload_n 1, 1), (.aload_n 0, 1), (.iload 4, 2), (.iconst 1, 1), (.iadd, 1), (.iaload, 1), (.aload_n 0, 1), (.iload 4, 2), (.iconst 2, 1), (.iadd, 1), (.iaload, 1), (.aload_n 0, 1), (.iload 4, 2), (.iconst 3, 1), (.iadd, 1), (.iaload, 1), (.aload_n 3, 1), (.invokestatic 52, 3), (.istore 5, 2), (.aload_n 2, 1), (.aload_n 0, 1), (.iload 4, 2), (.iconst 1, 1), (.iadd, 1), (.iaload, 1), (.aload_n 0, 1), (.iload 4, 2), (.iconst 2, 1), (.iadd, 1), (.iaload, 1), (.aload_n 0, 1)] := Jvm.Free.DS.facts 544 _ (by decide +kernel) (by decide +kernel)
theorem d_Law_law_544 : decode code 544 = .ok (.goto (2827), 3) := F_Law_law_544.1
theorem d_Law_law_547 : decode code 547 = .ok (.aload_n 1, 1) := F_Law_law_544.2.1
theorem d_Law_law_548 : decode code 548 = .ok (.aload_n 0, 1) := F_Law_law_544.2.2.1
theorem d_Law_law_549 : decode code 549 = .ok (.iload 4, 2) := F_Law_law_544.2.2.2.1
theorem d_Law_law_551 : decode code 551 = .ok (.iconst 1, 1) := F_Law_law_544.2.2.2.2.1
theorem d_Law_law_552 : decode code 552 = .ok (.iadd, 1) := F_Law_law_544.2.2.2.2.2.1
theorem d_Law_law_553 : decode code 553 = .ok (.iaload, 1) := F_Law_law_544.2.2.2.2.2.2.1
theorem d_Law_law_554 : decode code 554 = .ok (.aload_n 0, 1) := F_Law_law_544.2.2.2.2.2.2.2.1
theorem d_Law_law_555 : decode code 555 = .ok (.iload 4, 2) := F_Law_law_544.2.2.2.2.2.2.2.2.1
theorem d_Law_law_557 : decode code 557 = .ok (.iconst 2, 1) := F_Law_law_544.2.2.2.2.2.2.2.2.2.1
theorem d_Law_law_558 : decode code 558 = .ok (.iadd, 1) := F_Law_law_544.2.2.2.2.2.2.2.2.2.2.1
theorem d_Law_law_559 : decode code 559 = .ok (.iaload, 1) := F_Law_law_544.2.2.2.2.2.2.2.2.2.2.2.1
theorem d_Law_law_560 : decode code 560 = .ok (.aload_n 0, 1) := F_Law_law_544.2.2.2.2.2.2.2.2.2.2.2.2.1
theorem d_Law_law_561 : decode code 561 = .ok (.iload 4, 2) := F_Law_law_544.2.2.2.2.2.2.2.2.2.2.2.2.2.1
theorem d_Law_law_563 : decode code 563 = .ok (.iconst 3, 1) := F_Law_law_544.2.2.2.2.2.2.2.2.2.2.2.2.2.2.1
theorem d_Law_law_564 : decode code 564 = .ok (.iadd, 1) := F_Law_law_544.2.2.2.2.2.2.2.2.2.2.2.2.2.2.2.1
theorem d_Law_law_565 : decode code 565 = .ok (.iaload, 1) := F_Law_law_544.2.2.2.2.2.2.2.2.2.2.2.2.2.2.2.2.1
theorem d_Law_law_566 : decode code 566 = .ok (.aload_n 3, 1) := F_Law_law_544.2.2.2.2.2.2.2.2.2.2.2.2.2.2.2.2.2.1
theorem d_Law_law_567 : decode code 567 = .ok (.invokestatic 52, 3) := F_Law_law_544.2.2.2.2.2.2.2.2.2.2.2.2.2.2.2.2.2.2.1
theorem d_Law_law_570 : decode code 570 = .ok (.istore 5, 2) := F_Law_law_544.2.2.2.2.2.2.2.2.2.2.2.2.2.2.2.2.2.2.2.1
theorem d_Law_law_572 : decode code 572 = .ok (.aload_n 2, 1) := F_Law_law_544.2.2.2.2.2.2.2.2.2.2.2.2.2.2.2.2.2.2.2.2.1
theorem d_Law_law_573 : decode code 573 = .ok (.aload_n 0, 1) := F_Law_law_544.2.2.2.2.2.2.2.2.2.2.2.2.2.2.2.2.2.2.2.2.2.1
theorem d_Law_law_574 : decode code 574 = .ok (.iload 4, 2) := F_Law_law_544.2.2.2.2.2.2.2.2.2.2.2.2.2.2.2.2.2.2.2.2.2.2.1
theorem d_Law_law_576 : decode code 576 = .ok (.iconst 1, 1) := F_Law_law_544.2.2.2.2.2.2.2.2.2.2.2.2.2.2.2.2.2.2.2.2.2.2.2.1
theorem d_Law_law_577 : decode code 577 = .ok (.iadd, 1) := F_Law_law_544.2.2.2.2.2.2.2.2.2.2.2.2.2.2.2.2.2.2.2.2.2.2.2.2.1
theorem d_Law_law_578 : decode code 578 = .ok (.iaload, 1) := F_Law_law_544.2.2.2.2.2.2.2.2.2.2.2.2.2.2.2.2.2.2.2.2.2.2.2.2.2.1
theorem d_Law_law_579 : decode code 579 = .ok (.aload_n 0, 1) := F_Law_law_544.2.2.2.2.2.2.2.2.2.2.2.2.2.2.2.2.2.2.2.2.2.2.2.2.2.2.1
theorem d_Law_law_580 : decode code 580 = .ok (.iload 4, 2) := F_Law_law_544.2.2.2.2.2.2.2.2.2.2.2.2.2.2.2.2.2.2.2.2.2.2.2.2.2.2.2.1
theorem d_Law_law_582 : decode code 582 = .ok (.iconst 2, 1) := F_Law_law_544.2.2.2.2.2.2.2.2.2.2.2.2.2.2.2.2.2.2.2.2.2.2.2.2.2.2.2.2.1
theorem d_Law_law_583 : decode code 583 = .ok (.iadd, 1) := F_Law_law_544.2.2.2.2.2.2.2.2.2.2.2.2.2.2.2.2.2.2.2.2.2.2.2.2.2.2.2.2.2.1
theorem d_Law_law_584 : decode code 584 = .ok (.iaload, 1) := F_Law_law_544.2.2.2.2.2.2.2.2.2.2.2.2.2.2.2.2.2.2.2.2.2.2.2.2.2.2.2.2.2.2.1
theorem d_Law_law_585 : decode code 585 = .ok (.aload_n 0, 1) := F_Law_law_544.2.2.2.2.2.2.2.2.2.2.2.2.2.2.2.2.2.2.2.2.2.2.2.2.2.2.2.2.2.2.2.1
theorem F_Law_law_586 : Jvm.Free.DS.Facts code 586 [(.iload 4, 2), (.iconst 3, 1), (.iadd, 1), (.iaload, 1), (.invokevirtual 54, 3), (.istore 6, 2), (.aload_n 2, 1), (.invokevirtual 48, 3), (.iload 5, 2), (.if_icmp .eq (5), 3)] := Jvm.Free.DS.facts 586 _ (by decide +kernel) (by decide +kernel)
theorem d_Law_law_586 : decode code 586 = .ok (.iload 4, 2) := F_Law_law_586.1
theorem d_Law_law_588 : decode code 588 = .ok (.iconst 3, 1) := F_Law_law_586.2.1
theorem d_Law_law_589 : decode code 589 = .ok (.iadd, 1) := F_Law_law_586.2.2.1
theorem d_Law_law_590 : decode code 590 = .ok (.iaload, 1) := F_Law_law_586.2.2.2.1
theorem d_Law_law_591 : decode code 591 = .ok (.invokevirtual 54, 3) := F_Law_law_586.2.2.2.2.1
theorem d_Law_law_594 : decode code 594 = .ok (.istore 6, 2) := F_Law_law_586.2.2.2.2.2.1
theorem d_Law_law_596 : decode code 596 = .ok (.aload_n 2, 1) := F_Law_law_586.2.2.2.2.2.2.1
theorem d_Law_law_597 : decode code 597 = .ok (.invokevirtual 48, 3) := F_Law_law_586.2.2.2.2.2.2.2.1
theorem d_Law_law_600 : decode code 600 = .ok (.iload 5, 2) := F_Law_law_586.2.2.2.2.2.2.2.2.1
theorem d_Law_law_602 : decode code 602 = .ok (.if_icmp .eq (5), 3) := F_Law_law_586.2.2.2.2.2.2.2.2.2.1
theorem F_Law_law_607 : Jvm.Free.DS.Facts code 607 [(.iload 5, 2), (.ifCond .ne (15), 3)] := Jvm.Free.DS.facts 607 _ (by decide +kernel) (by decide +kernel)
theorem d_Law_law_607 : decode code 607 = .ok (.iload 5, 2) := F_Law_law_607.1
theorem d_Law_law_609 : decode code 609 = .ok (.ifCond .ne (15), 3) := F_Law_law_607.2.1
theorem F_Law_law_624 : Jvm.Free.DS.Facts code 624 [(.goto (2747), 3), (.aload_n 1, 1), (.aload_n 0, 1), (.iload 4, 2), (.iconst 1, 1), (.iadd, 1), (.iaload, 1), (.aload_n 0, 1), (.iload 4, 2), (.iconst 2, 1), (.iadd, 1), (.iaload, 1), (.aload_n 3, 1), (.invokestatic 55, 3), (.istore 5, 2), (.aload_n 2, 1), (.aload_n 0, 1), (.iload 4, 2), (.iconst 1, 1), (.iadd, 1), (.iaload, 1), (.aload_n 0, 1), (.iload 4, 2), (.iconst 2, 1), (.iadd, 1), (.iaload, 1), (.invokevirtual 58, 3), (.istore 6, 2), (.aload_n 2, 1), (.invokevirtual 48, 3), (.iload 5, 2), (.if_icmp .eq (5), 3)] := Jvm.Free.DS.facts 624 _ (by decide +kernel) (by decide +kernel)
theorem d_Law_law_624 : decode code 624 = .ok (.goto (2747), 3) := F_Law_law_624.1
theorem d_Law_law_627 : decode code 627 = .ok (.aload_n 1, 1) := F_Law_law_624.2.1
theorem d_Law_law_628 : decode code 628 = .ok (.aload_n 0, 1) := F_Law_law_624.2.2.1
theorem d_Law_law_629 : decode code 629 = .ok (.iload 4, 2) := F_Law_law_624.2.2.2.1
theorem d_Law_law_631 : decode code 631 = .ok (.iconst 1, 1) := F_Law_law_624.2.2.2.2.1
theorem d_Law_law_632 : decode code 632 = .ok (.iadd, 1) := F_Law_law_624.2.2.2.2.2.1
theorem d_Law_law_633 : decode code 633 = .ok (.iaload, 1) := F_Law_law_624.2.2.2.2.2.2.1
theorem d_Law_law_634 : decode code 634 = .ok (.aload_n 0, 1) := F_Law_law_624.2.2.2.2.2.2.2.1
theorem d_Law_law_635 : decode code 635 = .ok (.iload 4, 2) := F_Law_law_624.2.2.2.2.2.2.2.2.1
theorem d_Law_law_637 : decode code 637 = .ok (.iconst 2, 1) := F_Law_law_624.2.2.2.2.2.2.2.2.2.1
theorem d_Law_law_638 : decode code 638 = .ok (.iadd, 1) := F_Law_law_624.2.2.2.2.2.2.2.2.2.2.1
theorem d_Law_law_639 : decode code 639 = .ok (.iaload, 1) := F_Law_law_624.2.2.2.2.2.2.2.2.2.2.2.1
theorem d_Law_law_640 : decode code 640 = .ok (.aload_n 3, 1) := F_Law_law_624.2.2.2.2.2.2.2.2.2.2.2.2.1
theorem d_Law_law_641 : decode code 641 = .ok (.invokestatic 55, 3) := F_Law_law_624.2.2.2.2.2.2.2.2.2.2.2.2.2.1
theorem d_Law_law_644 : decode code 644 = .ok (.istore 5, 2) := F_Law_law_624.2.2.2.2.2.2.2.2.2.2.2.2.2.2.1
theorem d_Law_law_646 : decode code 646 = .ok (.aload_n 2, 1) := F_Law_law_624.2.2.2.2.2.2.2.2.2.2.2.2.2.2.2.1
theorem d_Law_law_647 : decode code 647 = .ok (.aload_n 0, 1) := F_Law_law_624.2.2.2.2.2.2.2.2.2.2.2.2.2.2.2.2.1
theorem d_Law_law_648 : decode code 648 = .ok (.iload 4, 2) := F_Law_law_624.2.2.2.2.2.2.2.2.2.2.2.2.2.2.2.2.2.1
theorem d_Law_law_650 : decode code 650 = .ok (.iconst 1, 1) := F_Law_law_624.2.2.2.2.2.2.2.2.2.2.2.2.2.2.2.2.2.2.1
theorem d_Law_law_651 : decode code 651 = .ok (.iadd, 1) := F_Law_law_624.2.2.2.2.2.2.2.2.2.2.2.2.2.2.2.2.2.2.2.1
theorem d_Law_law_652 : decode code 652 = .ok (.iaload, 1) := F_Law_law_624.2.2.2.2.2.2.2.2.2.2.2.2.2.2.2.2.2.2.2.2.1
theorem d_Law_law_653 : decode code 653 = .ok (.aload_n 0, 1) := F_Law_law_624.2.2.2.2.2.2.2.2.2.2.2.2.2.2.2.2.2.2.2.2.2.1
theorem d_Law_law_654 : decode code 654 = .ok (.iload 4, 2) := F_Law_law_624.2.2.2.2.2.2.2.2.2.2.2.2.2.2.2.2.2.2.2.2.2.2.1
theorem d_Law_law_656 : decode code 656 = .ok (.iconst 2, 1) := F_Law_law_624.2.2.2.2.2.2.2.2.2.2.2.2.2.2.2.2.2.2.2.2.2.2.2.1
theorem d_Law_law_657 : decode code 657 = .ok (.iadd, 1) := F_Law_law_624.2.2.2.2.2.2.2.2.2.2.2.2.2.2.2.2.2.2.2.2.2.2.2.2.1
theorem d_Law_law_658 : decode code 658 = .ok (.iaload, 1) := F_Law_law_624.2.2.2.2.2.2.2.2.2.2.2.2.2.2.2.2.2.2.2.2.2.2.2.2.2.1
theorem d_Law_law_659 : decode code 659 = .ok (.invokevirtual 58, 3) := F_Law_law_624.2.2.2.2.2.2.2.2.2.2.2.2.2.2.2.2.2.2.2.2.2.2.2.2.2.2.1
theorem d_Law_law_662 : decode code 662 = .ok (.istore 6, 2) := F_Law_law_624.2.2.2.2.2.2.2.2.2.2.2.2.2.2.2.2.2.2.2.2.2.2.2.2.2.2.2.1
theorem d_Law_law_664 : decode code 664 = .ok (.aload_n 2, 1) := F_Law_law_624.2.2.2.2.2.2.2.2.2.2.2.2.2.2.2.2.2.2.2.2.2.2.2.2.2.2.2.2.1
theorem d_Law_law_665 : decode code 665 = .ok (.invokevirtual 48, 3) := F_Law_law_624.2.2.2.2.2.2.2.2.2.2.2.2.2.2.2.2.2.2.2.2.2.2.2.2.2.2.2.2.2.1
theorem d_Law_law_668 : decode code 668 = .ok (.iload 5, 2) := F_Law_law_624.2.2.2.2.2.2.2.2.2.2.2.2.2.2.2.2.2.2.2.2.2.2.2.2.2.2.2.2.2.2.1
theorem d_Law_law_670 : decode code 670 = .ok (.if_icmp .eq (5), 3) := F_Law_law_624.2.2.2.2.2.2.2.2.2.2.2.2.2.2.2.2.2.2.2.2.2.2.2.2.2.2.2.2.2.2.2.1
theorem F_Law_law_675 : Jvm.Free.DS.Facts code 675 [(.iload 5, 2), (.ifCond .ne (15), 3)] := Jvm.Free.DS.facts 675 _ (by decide +kernel) (by decide +kernel)
theorem d_Law_law_675 : decode code 675 = .ok (.iload 5, 2) := F_Law_law_675.1
theorem d_Law_law_677 : decode code 677 = .ok (.ifCond .ne (15), 3) := F_Law_law_675.2.1
theorem F_Law_law_692 : Jvm.Free.DS.Facts code 692 [(.goto (2679), 3), (.aload_n 1, 1), (.aload_n 0, 1), (.iload 4, 2), (.iconst 1, 1), (.iadd, 1), (.iaload, 1), (.invokevirtual 59, 3), (.aload_n 2, 1), (.aload_n 0, 1), (.iload 4, 2), (.iconst 1, 1), (.iadd, 1), (.iaload, 1), (.invokevirtual 62, 3), (.if_icmp .eq (2656), 3)] := Jvm.Free.DS.facts 692 _ (by decide +kernel) (by decide +kernel)
theorem d_Law_law_692 : decode code 692 = .ok (.goto (2679), 3) := F_Law_law_692.1
theorem d_Law_law_695 : decode code 695 = .ok (.aload_n 1, 1) := F_Law_law_692.2.1
theorem d_Law_law_696 : decode code 696 = .ok (.aload_n 0, 1) := F_Law_law_692.2.2.1
theorem d_Law_law_697 : decode code 697 = .ok (.iload 4, 2) := F_Law_law_692.2.2.2.1
theorem d_Law_law_699 : decode code 699 = .ok (.iconst 1, 1) := F_Law_law_692.2.2.2.2.1
theorem d_Law_law_700 : decode code 700 = .ok (.iadd, 1) := F_Law_law_692.2.2.2.2.2.1
theorem d_Law_law_701 : decode code 701 = .ok (.iaload, 1) := F_Law_law_692.2.2.2.2.2.2.1
theorem d_Law_law_702 : decode code 702 = .ok (.invokevirtual 59, 3) := F_Law_law_692.2.2.2.2.2.2.2.1
theorem d_Law_law_705 : decode code 705 = .ok (.aload_n 2, 1) := F_Law_law_692.2.2.2.2.2.2.2.2.1
theorem d_Law_law_706 : decode code 706 = .ok (.aload_n 0, 1) := F_Law_law_692.2.2.2.2.2.2.2.2.2.1
theorem d_Law_law_707 : decode code 707 = .ok (.iload 4, 2) := F_Law_law_692.2.2.2.2.2.2.2.2.2.2.1
theorem d_Law_law_709 : decode code 709 = .ok (.iconst 1, 1) := F_Law_law_692.2.2.2.2.2.2.2.2.2.2.2.1
theorem d_Law_law_710 : decode code 710 = .ok (.iadd, 1) := F_Law_law_692.2.2.2.2.2.2.2.2.2.2.2.2.1
theorem d_Law_law_711 : decode code 711 = .ok (.iaload, 1) := F_Law_law_692.2.2.2.2.2.2.2.2.2.2.2.2.2.1
theorem d_Law_law_712 : decode code 712 = .ok (.invokevirtual 62, 3) := F_Law_law_692.2.2.2.2.2.2.2.2.2.2.2.2.2.2.1
theorem d_Law_law_715 : decode code 715 = .ok (.if_icmp .eq (2656), 3) := F_Law_law_692.2.2.2.2.2.2.2.2.2.2.2.2.2.2.2.1
theorem F_Law_law_720 : Jvm.Free.DS.Facts code 720 [(.aload_n 1, 1), (.aload_n 0, 1), (.iload 4, 2), (.iconst 1, 1), (.iadd, 1), (.iaload, 1), (.invokevirtual 63, 3), (.aload_n 2, 1), (.aload_n 0, 1), (.iload 4, 2), (.iconst 1, 1), (.iadd, 1), (.iaload, 1), (.invokevirtual 66, 3), (.if_icmp .eq (2631), 3)] := Jvm.Free.DS.facts 720 _ (by decide +kernel) (by decide +kernel)
theorem d_Law_law_720 : decode code 720 = .ok (.aload_n 1, 1) := F_Law_law_720.1
theorem d_Law_law_721 : decode code 721 = .ok (.aload_n 0, 1) := F_Law_law_720.2.1
theorem d_Law_law_722 : decode code 722 = .ok (.iload 4, 2) := F_Law_law_720.2.2.1
theorem d_Law_law_724 : decode code 724 = .ok (.iconst 1, 1) := F_Law_law_720.2.2.2.1
theorem d_Law_law_725 : decode code 725 = .ok (.iadd, 1) := F_Law_law_720.2.2.2.2.1
theorem d_Law_law_726 : decode code 726 = .ok (.iaload, 1) := F_Law_law_720.2.2.2.2.2.1
theorem d_Law_law_727 : decode code 727 = .ok (.invokevirtual 63, 3) := F_Law_law_720.2.2.2.2.2.2.1
theorem d_Law_law_730 : decode code 730 = .ok (.aload_n 2, 1) := F_Law_law_720.2.2.2.2.2.2.2.1
theorem d_Law_law_731 : decode code 731 = .ok (.aload_n 0, 1) := F_Law_law_720.2.2.2.2.2.2.2.2.1
theorem d_Law_law_732 : decode code 732 = .ok (.iload 4, 2) := F_Law_law_720.2.2.2.2.2.2.2.2.2.1
theorem d_Law_law_734 : decode code 734 = .ok (.iconst 1, 1) := F_Law_law_720.2.2.2.2.2.2.2.2.2.2.1
theorem d_Law_law_735 : decode code 735 = .ok (.iadd, 1) := F_Law_law_720.2.2.2.2.2.2.2.2.2.2.2.1
theorem d_Law_law_736 : decode code 736 = .ok (.iaload, 1) := F_Law_law_720.2.2.2.2.2.2.2.2.2.2.2.2.1
theorem d_Law_law_737 : decode code 737 = .ok (.invokevirtual 66, 3) := F_Law_law_720.2.2.2.2.2.2.2.2.2.2.2.2.2.1
theorem d_Law_law_740 : decode code 740 = .ok (.if_icmp .eq (2631), 3) := F_Law_law_720.2.2.2.2.2.2.2.2.2.2.2.2.2.2.1
theorem F_Law_law_745 : Jvm.Free.DS.Facts code 745 [(.aload_n 1, 1), (.aload_n 0, 1), (.iload 4, 2), (.iconst 1, 1), (.iadd, 1), (.iaload, 1), (.invokevirtual 67, 3), (.aload_n 2, 1), (.aload_n 0, 1), (.iload 4, 2), (.iconst 1, 1), (.iadd, 1), (.iaload, 1), (.invokevirtual 70, 3), (.if_icmp .eq (2606), 3)] := Jvm.Free.DS.facts 745 _ (by decide +kernel) (by decide +kernel)
theorem d_Law_law_745 : decode code 745 = .ok (.aload_n 1, 1) := F_Law_law_745.1
theorem d_Law_law_746 : decode code 746 = .ok (.aload_n 0, 1) := F_Law_law_745.2.1
theorem d_Law_law_747 : decode code 747 = .ok (.iload 4, 2) := F_Law_law_745.2.2.1
theorem d_Law_law_749 : decode code 749 = .ok (.iconst 1, 1) := F_Law_law_745.2.2.2.1
theorem d_Law_law_750 : decode code 750 = .ok (.iadd, 1) := F_Law_law_745.2.2.2.2.1
theorem d_Law_law_751 : decode code 751 = .ok (.iaload, 1) := F_Law_law_745.2.2.2.2.2.1
theorem d_Law_law_752 : decode code 752 = .ok (.invokevirtual 67, 3) := F_Law_law_745.2.2.2.2.2.2.1
theorem d_Law_law_755 : decode code 755 = .ok (.aload_n 2, 1) := F_Law_law_745.2.2.2.2.2.2.2.1
theorem d_Law_law_756 : decode code 756 = .ok (.aload_n 0, 1) := F_Law_law_745.2.2.2.2.2.2.2.2.1
theorem d_Law_law_757 : decode code 757 = .ok (.iload 4, 2) := F_Law_law_745.2.2.2.2.2.2.2.2.2.1
theorem d_Law_law_759 : decode code 759 = .ok (.iconst 1, 1) := F_Law_law_745.2.2.2.2.2.2.2.2.2.2.1
theorem d_Law_law_760 : decode code 760 = .ok (.iadd, 1) := F_Law_law_745.2.2.2.2.2.2.2.2.2.2.2.1
theorem d_Law_law_761 : decode code 761 = .ok (.iaload, 1) := F_Law_law_745.2.2.2.2.2.2.2.2.2.2.2.2.1
theorem d_Law_law_762 : decode code 762 = .ok (.invokevirtual 70, 3) := F_Law_law_745.2.2.2.2.2.2.2.2.2.2.2.2.2.1
theorem d_Law_law_765 : decode code 765 = .ok (.if_icmp .eq (2606), 3) := F_Law_law_745.2.2.2.2.2.2.2.2.2.2.2.2.2.2.1
theorem F_Law_law_770 : Jvm.Free.DS.Facts code 770 [(.aload_n 1, 1), (.aload_n 0, 1), (.iload 4, 2), (.iconst 1, 1), (.iadd, 1), (.iaload, 1), (.aload_n 0, 1), (.iload 4, 2), (.iconst 2, 1), (.iadd, 1), (.iaload, 1), (.invokevirtual 71, 3), (.aload_n 2, 1), (.aload_n 0, 1), (.iload 4, 2), (.iconst 1, 1), (.iadd, 1), (.iaload, 1), (.aload_n 0, 1), (.iload 4, 2), (.iconst 2, 1), (.iadd, 1), (.iaload, 1), (.invokevirtual 74, 3), (.if_icmp .eq (2569), 3)] := Jvm.Free.DS.facts 770 _ (by decide +kernel) (by decide +kernel)
theorem d_Law_law_770 : decode code 770 = .ok (.aload_n 1, 1) := F_Law_law_770.1
theorem d_Law_law_771 : decode code 771 = .ok (.aload_n 0, 1) := F_Law_law_770.2.1
theorem d_Law_law_772 : decode code 772 = .ok (.iload 4, 2) := F_Law_law_770.2.2.1
theorem d_Law_law_774 : decode code 774 = .ok (.iconst 1, 1) := F_Law_law_770.2.2.2.1
theorem d_Law_law_775 : decode code 775 = .ok (.iadd, 1) := F_Law_law_770.2.2.2.2.1
theorem d_Law_law_776 : decode code 776 = .ok (.iaload, 1) := F_Law_law_770.2.2.2.2.2.1
theorem d_Law_law_777 : decode code 777 = .ok (.aload_n 0, 1) := F_Law_law_770.2.2.2.2.2.2.1
theorem d_Law_law_778 : decode code 778 = .ok (.iload 4, 2) := F_Law_law_770.2.2.2.2.2.2.2.1
theorem d_Law_law_780 : decode code 780 = .ok (.iconst 2, 1) := F_Law_law_770.2.2.2.2.2.2.2.2.1
theorem d_Law_law_781 : decode code 781 = .ok (.iadd, 1) := F_Law_law_770.2.2.2.2.2.2.2.2.2.1
theorem d_Law_law_782 : decode code 782 = .ok (.iaload, 1) := F_Law_law_770.2.2.2.2.2.2.2.2.2.2.1
theorem d_Law_law_783 : decode code 783 = .ok (.invokevirtual 71, 3) := F_Law_law_770.2.2.2.2.2.2.2.2.2.2.2.1
theorem d_Law_law_786 : decode code 786 = .ok (.aload_n 2, 1) := F_Law_law_770.2.2.2.2.2.2.2.2.2.2.2.2.1
theorem d_Law_law_787 : decode code 787 = .ok (.aload_n 0, 1) := F_Law_law_770.2.2.2.2.2.2.2.2.2.2.2.2.2.1
theorem d_Law_law_788 : decode code 788 = .ok (.iload 4, 2) := F_Law_law_770.2.2.2.2.2.2.2.2.2.2.2.2.2.2.1
theorem d_Law_law_790 : decode code 790 = .ok (.iconst 1, 1) := F_Law_law_770.2.2.2.2.2.2.2.2.2.2.2.2.2.2.2.1
theorem d_Law_law_791 : decode code 791 = .ok (.iadd, 1) := F_Law_law_770.2.2.2.2.2.2.2.2.2.2.2.2.2.2.2.2.1
theorem d_Law_law_792 : decode code 792 = .ok (.iaload, 1) := F_Law_law_770.2.2.2.2.2.2.2.2.2.2.2.2.2.2.2.2.2.1
theorem d_Law_law_793 : decode code 793 = .ok (.aload_n 0, 1) := F_Law_law_770.2.2.2.2.2.2.2.2.2.2.2.2.2.2.2.2.2.2.1
theorem d_Law_law_794 : decode code 794 = .ok (.iload 4, 2) := F_Law_law_770.2.2.2.2.2.2.2.2.2.2.2.2.2.2.2.2.2.2.2.1
theorem d_Law_law_796 : decode code 796 = .ok (.iconst 2, 1) := F_Law_law_770.2.2.2.2.2.2.2.2.2.2.2.2.2.2.2.2.2.2.2.2.1
theorem d_Law_law_797 : decode code 797 = .ok (.iadd, 1) := F_Law_law_770.2.2.2.2.2.2.2.2.2.2.2.2.2.2.2.2.2.2.2.2.2.1
theorem d_Law_law_798 : decode code 798 = .ok (.iaload, 1) := F_Law_law_770.2.2.2.2.2.2.2.2.2.2.2.2.2.2.2.2.2.2.2.2.2.2.1
theorem d_Law_law_799 : decode code 799 = .ok (.invokevirtual 74, 3) := F_Law_law_770.2.2.2.2.2.2.2.2.2.2.2.2.2.2.2.2.2.2.2.2.2.2.2.1
theorem d_Law_law_802 : decode code 802 = .ok (.if_icmp .eq (2569), 3) := F_Law_law_770.2.2.2.2.2.2.2.2.2.2.2.2.2.2.2.2.2.2.2.2.2.2.2.2.1
theorem F_Law_law_807 : Jvm.Free.DS.Facts code 807 [(.aload_n 1, 1), (.aload_n 0, 1), (.iload 4, 2), (.iconst 1, 1), (.iadd, 1), (.iaload, 1), (.aload_n 0, 1), (.iload 4, 2), (.iconst 2, 1), (.iadd, 1), (.iaload, 1), (.invokevirtual 75, 3), (.aload_n 2, 1), (.aload_n 0, 1), (.iload 4, 2), (.iconst 1, 1), (.iadd, 1), (.iaload, 1), (.aload_n 0, 1), (.iload 4, 2), (.iconst 2, 1), (.iadd, 1), (.iaload, 1), (.invokevirtual 78, 3), (.if_icmp .eq (2532), 3)] := Jvm.Free.DS.facts 807 _ (by decide +kernel) (by decide +kernel)
theorem d_Law_law_807 : decode code 807 = .ok (.aload_n 1, 1) := F_Law_law_807.1
theorem d_Law_law_808 : decode code 808 = .ok (.aload_n 0, 1) := F_Law_law_807.2.1
theorem d_Law_law_809 : decode code 809 = .ok (.iload 4, 2) := F_Law_law_807.2.2.1
theorem d_Law_law_811 : decode code 811 = .ok (.iconst 1, 1) := F_Law_law_807.2.2.2.1
theorem d_Law_law_812 : decode code 812 = .ok (.iadd, 1) := F_Law_law_807.2.2.2.2.1
theorem d_Law_law_813 : decode code 813 = .ok (.iaload, 1) := F_Law_law_807.2.2.2.2.2.1
theorem d_Law_law_814 : decode code 814 = .ok (.aload_n 0, 1) := F_Law_law_807.2.2.2.2.2.2.1
theorem d_Law_law_815 : decode code 815 = .ok (.iload 4, 2) := F_Law_law_807.2.2.2.2.2.2.2.1
theorem d_Law_law_817 : decode code 817 = .ok (.iconst 2, 1) := F_Law_law_807.2.2.2.2.2.2.2.2.1
theorem d_Law_law_818 : decode code 818 = .ok (.iadd, 1) := F_Law_law_807.2.2.2.2.2.2.2.2.2.1
theorem d_Law_law_819 : decode code 819 = .ok (.iaload, 1) := F_Law_law_807.2.2.2.2.2.2.2.2.2.2.1
theorem d_Law_law_820 : decode code 820 = .ok (.invokevirtual 75, 3) := F_Law_law_807.2.2.2.2.2.2.2.2.2.2.2.1
theorem d_Law_law_823 : decode code 823 = .ok (.aload_n 2, 1) := F_Law_law_807.2.2.2.2.2.2.2.2.2.2.2.2.1
theorem d_Law_law_824 : decode code 824 = .ok (.aload_n 0, 1) := F_Law_law_807.2.2.2.2.2.2.2.2.2.2.2.2.2.1
theorem d_Law_law_825 : decode code 825 = .ok (.iload 4, 2) := F_Law_law_807.2.2.2.2.2.2.2.2.2.2.2.2.2.2.1
theorem d_Law_law_827 : decode code 827 = .ok (.iconst 1, 1) := F_Law_law_807.2.2.2.2.2.2.2.2.2.2.2.2.2.2.2.1
theorem d_Law_law_828 : decode code 828 = .ok (.iadd, 1) := F_Law_law_807.2.2.2.2.2.2.2.2.2.2.2.2.2.2.2.2.1
theorem d_Law_law_829 : decode code 829 = .ok (.iaload, 1) := F_Law_law_807.2.2.2.2.2.2.2.2.2.2.2.2.2.2.2.2.2.1
theorem d_Law_law_830 : decode code 830 = .ok (.aload_n 0, 1) := F_Law_law_807.2.2.2.2.2.2.2.2.2.2.2.2.2.2.2.2.2.2.1
theorem d_Law_law_831 : decode code 831 = .ok (.iload 4, 2) := F_Law_law_807.2.2.2.2.2.2.2.2.2.2.2.2.2.2.2.2.2.2.2.1
theorem d_Law_law_833 : decode code 833 = .ok (.iconst 2, 1) := F_Law_law_807.2.2.2.2.2.2.2.2.2.2.2.2.2.2.2.2.2.2.2.2.1
theorem d_Law_law_834 : decode code 834 = .ok (.iadd, 1) := F_Law_law_807.2.2.2.2.2.2.2.2.2.2.2.2.2.2.2.2.2.2.2.2.2.1
theorem d_Law_law_835 : decode code 835 = .ok (.iaload, 1) := F_Law_law_807.2.2.2.2.2.2.2.2.2.2.2.2.2.2.2.2.2.2.2.2.2.2.1
theorem d_Law_law_836 : decode code 836 = .ok (.invokevirtual 78, 3) := F_Law_law_807.2.2.2.2.2.2.2.2.2.2.2.2.2.2.2.2.2.2.2.2.2.2.2.1
theorem d_Law_law_839 : decode code 839 = .ok (.if_icmp .eq (2532), 3) := F_Law_law_807.2.2.2.2.2.2.2.2.2.2.2.2.2.2.2.2.2.2.2.2.2.2.2.2.1
theorem F_Law_law_844 : Jvm.Free.DS.Facts code 844 [(.aload_n 1, 1), (.aload_n 0, 1), (.iload 4, 2), (.iconst 1, 1), (.iadd, 1), (.iaload, 1), (.aload_n 0, 1), (.iload 4, 2), (.iconst 2, 1), (.iadd, 1), (.iaload, 1), (.invokevirtual 79, 3), (.aload_n 2, 1), (.aload_n 0, 1), (.iload 4, 2), (.iconst 1, 1), (.iadd, 1), (.iaload, 1), (.aload_n 0, 1), (.iload 4, 2), (.iconst 2, 1), (.iadd, 1), (.iaload, 1), (.invokevirtual 82, 3), (.if_icmp .eq (2495), 3)] := Jvm.Free.DS.facts 844 _ (by decide +kernel) (by decide +kernel)
theorem d_Law_law_844 : decode code 844 = .ok (.aload_n 1, 1) := F_Law_law_844.1
theorem d_Law_law_845 : decode code 845 = .ok (.aload_n 0, 1) := F_Law_law_844.2.1
theorem d_Law_law_846 : decode code 846 = .ok (.iload 4, 2) := F_Law_law_844.2.2.1
theorem d_Law_law_848 : decode code 848 = .ok (.iconst 1, 1) := F_Law_law_844.2.2.2.1
theorem d_Law_law_849 : decode code 849 = .ok (.iadd, 1) := F_Law_law_844.2.2.2.2.1
theorem d_Law_law_850 : decode code 850 = .ok (.iaload, 1) := F_Law_law_844.2.2.2.2.2.1
theorem d_Law_law_851 : decode code 851 = .ok (.aload_n 0, 1) := F_Law_law_844.2.2.2.2.2.2.1
theorem d_Law_law_852 : decode code 852 = .ok (.iload 4, 2) := F_Law_law_844.2.2.2.2.2.2.2.1
theorem d_Law_law_854 : decode code 854 = .ok (.iconst 2, 1) := F_Law_law_844.2.2.2.2.2.2.2.2.1
theorem d_Law_law_855 : decode code 855 = .ok (.iadd, 1) := F_Law_law_844.2.2.2.2.2.2.2.2.2.1
theorem d_Law_law_856 : decode code 856 = .ok (.iaload, 1) := F_Law_law_844.2.2.2.2.2.2.2.2.2.2.1
theorem d_Law_law_857 : decode code 857 = .ok (.invokevirtual 79, 3) := F_Law_law_844.2.2.2.2.2.2.2.2.2.2.2.1
theorem d_Law_law_860 : decode code 860 = .ok (.aload_n 2, 1) := F_Law_law_844.2.2.2.2.2.2.2.2.2.2.2.2.1
theorem d_Law_law_861 : decode code 861 = .ok (.aload_n 0, 1) := F_Law_law_844.2.2.2.2.2.2.2.2.2.2.2.2.2.1
theorem d_Law_law_862 : decode code 862 = .ok (.iload 4, 2) := F_Law_law_844.2.2.2.2.2.2.2.2.2.2.2.2.2.2.1
theorem d_Law_law_864 : decode code 864 = .ok (.iconst 1, 1) := F_Law_law_844.2.2.2.2.2.2.2.2.2.2.2.2.2.2.2.1
theorem d_Law_law_865 : decode code 865 = .ok (.iadd, 1) := F_Law_law_844.2.2.2.2.2.2.2.2.2.2.2.2.2.2.2.2.1
theorem d_Law_law_866 : decode code 866 = .ok (.iaload, 1) := F_Law_law_844.2.2.2.2.2.2.2.2.2.2.2.2.2.2.2.2.2.1
theorem d_Law_law_867 : decode code 867 = .ok (.aload_n 0, 1) := F_Law_law_844.2.2.2.2.2.2.2.2.2.2.2.2.2.2.2.2.2.2.1
theorem d_Law_law_868 : decode code 868 = .ok (.iload 4, 2) := F_Law_law_844.2.2.2.2.2.2.2.2.2.2.2.2.2.2.2.2.2.2.2.1
theorem d_Law_law_870 : decode code 870 = .ok (.iconst 2, 1) := F_Law_law_844.2.2.2.2.2.2.2.2.2.2.2.2.2.2.2.2.2.2.2.2.1
theorem d_Law_law_871 : decode code 871 = .ok (.iadd, 1) := F_Law_law_844.2.2.2.2.2.2.2.2.2.2.2.2.2.2.2.2.2.2.2.2.2.1
theorem d_Law_law_872 : decode code 872 = .ok (.iaload, 1) := F_Law_law_844.2.2.2.2.2.2.2.2.2.2.2.2.2.2.2.2.2.2.2.2.2.2.1
theorem d_Law_law_873 : decode code 873 = .ok (.invokevirtual 82, 3) := F_Law_law_844.2.2.2.2.2.2.2.2.2.2.2.2.2.2.2.2.2.2.2.2.2.2.2.1
theorem d_Law_law_876 : decode code 876 = .ok (.if_icmp .eq (2495), 3) := F_Law_law_844.2.2.2.2.2.2.2.2.2.2.2.2.2.2.2.2.2.2.2.2.2.2.2.2.1
theorem F_Law_law_881 : Jvm.Free.DS.Facts code 881 [(.aload_n 1, 1), (.aload_n 0, 1), (.iload 4, 2), (.iconst 1, 1), (.iadd, 1), (.iaload, 1), (.invokevirtual 83, 3), (.aload_n 2, 1), (.aload_n 0, 1), (.iload 4, 2), (.iconst 1, 1), (.iadd, 1), (.iaload, 1), (.invokevirtual 86, 3), (.if_icmp .eq (2470), 3)] := Jvm.Free.DS.facts 881 _ (by decide +kernel) (by decide +kernel)
theorem d_Law_law_881 : decode code 881 = .ok (.aload_n 1, 1) := F_Law_law_881.1
theorem d_Law_law_882 : decode code 882 = .ok (.aload_n 0, 1) := F_Law_law_881.2.1
theorem d_Law_law_883 : decode code 883 = .ok (.iload 4, 2) := F_Law_law_881.2.2.1
theorem d_Law_law_885 : decode code 885 = .ok (.iconst 1, 1) := F_Law_law_881.2.2.2.1
theorem d_Law_law_886 : decode code 886 = .ok (.iadd, 1) := F_Law_law_881.2.2.2.2.1
theorem d_Law_law_887 : decode code 887 = .ok (.iaload, 1) := F_Law_law_881.2.2.2.2.2.1
theorem d_Law_law_888 : decode code 888 = .ok (.invokevirtual 83, 3) := F_Law_law_881.2.2.2.2.2.2.1
theorem d_Law_law_891 : decode code 891 = .ok (.aload_n 2, 1) := F_Law_law_881.2.2.2.2.2.2.2.1
theorem d_Law_law_892 : decode code 892 = .ok (.aload_n 0, 1) := F_Law_law_881.2.2.2.2.2.2.2.2.1
theorem d_Law_law_893 : decode code 893 = .ok (.iload 4, 2) := F_Law_law_881.2.2.2.2.2.2.2.2.2.1
theorem d_Law_law_895 : decode code 895 = .ok (.iconst 1, 1) := F_Law_law_881.2.2.2.2.2.2.2.2.2.2.1
theorem d_Law_law_896 : decode code 896 = .ok (.iadd, 1) := F_Law_law_881.2.2.2.2.2.2.2.2.2.2.2.1
theorem d_Law_law_897 : decode code 897 = .ok (.iaload, 1) := F_Law_law_881.2.2.2.2.2.2.2.2.2.2.2.2.1
theorem d_Law_law_898 : decode code 898 = .ok (.invokevirtual 86, 3) := F_Law_law_881.2.2.2.2.2.2.2.2.2.2.2.2.2.1
theorem d_Law_law_901 : decode code 901 = .ok (.if_icmp .eq (2470), 3) := F_Law_law_881.2.2.2.2.2.2.2.2.2.2.2.2.2.2.1
theorem F_Law_law_906 : Jvm.Free.DS.Facts code 906 [(.aload_n 1, 1), (.aload_n 0, 1), (.iload 4, 2), (.iconst 1, 1), (.iadd, 1), (.iaload, 1), (.aload_n 0, 1), (.iload 4, 2), (.iconst 2, 1), (.iadd, 1), (.iaload, 1), (.invokevirtual 87, 3), (.aload_n 2, 1), (.aload_n 0, 1), (.iload 4, 2), (.iconst 1, 1), (.iadd, 1), (.iaload, 1), (.aload_n 0, 1), (.iload 4, 2), (.iconst 2, 1), (.iadd, 1), (.iaload, 1), (.invokevirtual 90, 3), (.if_icmp .eq (2433), 3)] := Jvm.Free.DS.facts 906 _ (by decide +kernel) (by decide +kernel)
theorem d_Law_law_906 : decode code 906 = .ok (.aload_n 1, 1) := F_Law_law_906.1
theorem d_Law_law_907 : decode code 907 = .ok (.aload_n 0, 1) := F_Law_law_906.2.1
theorem d_Law_law_908 : decode code 908 = .ok (.iload 4, 2) := F_Law_law_906.2.2.1
theorem d_Law_law_910 : decode code 910 = .ok (.iconst 1, 1) := F_Law_law_906.2.2.2.1
theorem d_Law_law_911 : decode code 911 = .ok (.iadd, 1) := F_Law_law_906.2.2.2.2.1
theorem d_Law_law_912 : decode code 912 = .ok (.iaload, 1) := F_Law_law_906.2.2.2.2.2.1
theorem d_Law_law_913 : decode code 913 = .ok (.aload_n 0, 1) := F_Law_law_906.2.2.2.2.2.2.1
theorem d_Law_law_914 : decode code 914 = .ok (.iload 4, 2) := F_Law_law_906.2.2.2.2.2.2.2.1
theorem d_Law_law_916 : decode code 916 = .ok (.iconst 2, 1) := F_Law_law_906.2.2.2.2.2.2.2.2.1
theorem d_Law_law_917 : decode code 917 = .ok (.iadd, 1) := F_Law_law_906.2.2.2.2.2.2.2.2.2.1
theorem d_Law_law_918 : decode code 918 = .ok (.iaload, 1) := F_Law_law_906.2.2.2.2.2.2.2.2.2.2.1
theorem d_Law_law_919 : decode code 919 = .ok (.invokevirtual 87, 3) := F_Law_law_906.2.2.2.2.2.2.2.2.2.2.2.1
theorem d_Law_law_922 : decode code 922 = .ok (.aload_n 2, 1) := F_Law_law_906.2.2.2.2.2.2.2.2.2.2.2.2.1
theorem d_Law_law_923 : decode code 923 = .ok (.aload_n 0, 1) := F_Law_law_906.2.2.2.2.2.2.2.2.2.2.2.2.2.1
theorem d_Law_law_924 : decode code 924 = .ok (.iload 4, 2) := F_Law_law_906.2.2.2.2.2.2.2.2.2.2.2.2.2.2.1
theorem d_Law_law_926 : decode code 926 = .ok (.iconst 1, 1) := F_Law_law_906.2.2.2.2.2.2.2.2.2.2.2.2.2.2.2.1
theorem d_Law_law_927 : decode code 927 = .ok (.iadd, 1) := F_Law_law_906.2.2.2.2.2.2.2.2.2.2.2.2.2.2.2.2.1
theorem d_Law_law_928 : decode code 928 = .ok (.iaload, 1) := F_Law_law_906.2.2.2.2.2.2.2.2.2.2.2.2.2.2.2.2.2.1
theorem d_Law_law_929 : decode code 929 = .ok (.aload_n 0, 1) := F_Law_law_906.2.2.2.2.2.2.2.2.2.2.2.2.2.2.2.2.2.2.1
theorem d_Law_law_930 : decode code 930 = .ok (.iload 4, 2) := F_Law_law_906.2.2.2.2.2.2.2.2.2.2.2.2.2.2.2.2.2.2.2.1
theorem d_Law_law_932 : decode code 932 = .ok (.iconst 2, 1) := F_Law_law_906.2.2.2.2.2.2.2.2.2.2.2.2.2.2.2.2.2.2.2.2.1
theorem d_Law_law_933 : decode code 933 = .ok (.iadd, 1) := F_Law_law_906.2.2.2.2.2.2.2.2.2.2.2.2.2.2.2.2.2.2.2.2.2.1
theorem d_Law_law_934 : decode code 934 = .ok (.iaload, 1) := F_Law_law_906.2.2.2.2.2.2.2.2.2.2.2.2.2.2.2.2.2.2.2.2.2.2.1
theorem d_Law_law_935 : decode code 935 = .ok (.invokevirtual 90, 3) := F_Law_law_906.2.2.2.2.2.2.2.2.2.2.2.2.2.2.2.2.2.2.2.2.2.2.2.1
theorem d_Law_law_938 : decode code 938 = .ok (.if_icmp .eq (2433), 3) := F_Law_law_906.2.2.2.2.2.2.2.2.2.2.2.2.2.2.2.2.2.2.2.2.2.2.2.2.1
theorem F_Law_law_943 : Jvm.Free.DS.Facts code 943 [(.aload_n 1, 1), (.aload_n 0, 1), (.iload 4, 2), (.iconst 1, 1), (.iadd, 1), (.iaload, 1), (.invokevirtual 91, 3), (.aload_n 2, 1), (.aload_n 0, 1), (.iload 4, 2), (.iconst 1, 1), (.iadd, 1), (.iaload, 1), (.invokevirtual 94, 3), (.if_icmp .eq (2408), 3)] := Jvm.Free.DS.facts 943 _ (by decide +kernel) (by decide +kernel)
theorem d_Law_law_943 : decode code 943 = .ok (.aload_n 1, 1) := F_Law_law_943.1
theorem d_Law_law_944 : decode code 944 = .ok (.aload_n 0, 1) := F_Law_law_943.2.1
theorem d_Law_law_945 : decode code 945 = .ok (.iload 4, 2) := F_Law_law_943.2.2.1
theorem d_Law_law_947 : decode code 947 = .ok (.iconst 1, 1) := F_Law_law_943.2.2.2.1
theorem d_Law_law_948 : decode code 948 = .ok (.iadd, 1) := F_Law_law_943.2.2.2.2.1
theorem d_Law_law_949 : decode code 949 = .ok (.iaload, 1) := F_Law_law_943.2.2.2.2.2.1
theorem d_Law_law_950 : decode code 950 = .ok (.invokevirtual 91, 3) := F_Law_law_943.2.2.2.2.2.2.1
theorem d_Law_law_953 : decode code 953 = .ok (.aload_n 2, 1) := F_Law_law_943.2.2.2.2.2.2.2.1
theorem d_Law_law_954 : decode code 954 = .ok (.aload_n 0, 1) := F_Law_law_943.2.2.2.2.2.2.2.2.1
theorem d_Law_law_955 : decode code 955 = .ok (.iload 4, 2) := F_Law_law_943.2.2.2.2.2.2.2.2.2.1
theorem d_Law_law_957 : decode code 957 = .ok (.iconst 1, 1) := F_Law_law_943.2.2.2.2.2.2.2.2.2.2.1
theorem d_Law_law_958 : decode code 958 = .ok (.iadd, 1) := F_Law_law_943.2.2.2.2.2.2.2.2.2.2.2.1
theorem d_Law_law_959 : decode code 959 = .ok (.iaload, 1) := F_Law_law_943.2.2.2.2.2.2.2.2.2.2.2.2.1
theorem d_Law_law_960 : decode code 960 = .ok (.invokevirtual 94, 3) := F_Law_law_943.2.2.2.2.2.2.2.2.2.2.2.2.2.1
theorem d_Law_law_963 : decode code 963 = .ok (.if_icmp .eq (2408), 3) := F_Law_law_943.2.2.2.2.2.2.2.2.2.2.2.2.2.2.1
theorem F_Law_law_968 : Jvm.Free.DS.Facts code 968 [(.aload_n 1, 1), (.aload_n 0, 1), (.iload 4, 2), (.iconst 1, 1), (.iadd, 1), (.iaload, 1), (.aload_n 0, 1), (.iload 4, 2), (.iconst 2, 1), (.iadd, 1), (.iaload, 1), (.aload_n 0, 1), (.iload 4, 2), (.iconst 3, 1), (.iadd, 1), (.iaload, 1), (.invokevirtual 95, 3), (.aload_n 2, 1), (.aload_n 0, 1), (.iload 4, 2), (.iconst 1, 1), (.iadd, 1), (.iaload, 1), (.aload_n 0, 1), (.iload 4, 2), (.iconst 2, 1), (.iadd, 1), (.iaload, 1), (.aload_n 0, 1), (.iload 4, 2), (.iconst 3, 1), (.iadd, 1)] := Jvm.Free.DS.facts 968 _ (by decide +kernel) (by decide +kernel)
theorem d_Law_law_968 : decode code 968 = .ok (.aload_n 1, 1) := F_Law_law_968.1
theorem d_Law_law_969 : decode code 969 = .ok (.aload_n 0, 1) := F_Law_law_968.2.1
theorem d_Law_law_970 : decode code 970 = .ok (.iload 4, 2) := F_Law_law_968.2.2.1
theorem d_Law_law_972 : decode code 972 = .ok (.iconst 1, 1) := F_Law_law_968.2.2.2.1
theorem d_Law_law_973 : decode code 973 = .ok (.iadd, 1) := F_Law_law_968.2.2.2.2.1
theorem d_Law_law_974 : decode code 974 = .ok (.iaload, 1) := F_Law_law_968.2.2.2.2.2.1
theorem d_Law_law_975 : decode code 975 = .ok (.aload_n 0, 1) := F_Law_law_968.2.2.2.2.2.2.1
theorem d_Law_law_976 : decode code 976 = .ok (.iload 4, 2) := F_Law_law_968.2.2.2.2.2.2.2.1
theorem d_Law_law_978 : decode code 978 = .ok (.iconst 2, 1) := F_Law_law_968.2.2.2.2.2.2.2.2.1
theorem d_Law_law_979 : decode code 979 = .ok (.iadd, 1) := F_Law_law_968.2.2.2.2.2.2.2.2.2.1
theorem d_Law_law_980 : decode code 980 = .ok (.iaload, 1) := F_Law_law_968.2.2.2.2.2.2.2.2.2.2.1
theorem d_Law_law_981 : decode code 981 = .ok (.aload_n 0, 1) := F_Law_law_968.2.2.2.2.2.2.2.2.2.2.2.1
theorem d_Law_law_982 : decode code 982 = .ok (.iload 4, 2) := F_Law_law_968.2.2.2.2.2.2.2.2.2.2.2.2.1
theorem d_Law_law_984 : decode code 984 = .ok (.iconst 3, 1) := F_Law_law_968.2.2.2.2.2.2.2.2.2.2.2.2.2.1
theorem d_Law_law_985 : decode code 985 = .ok (.iadd, 1) := F_Law_law_968.2.2.2.2.2.2.2.2.2.2.2.2.2.2.1
theorem d_Law_law_986 : decode code 986 = .ok (.iaload, 1) := F_Law_law_968.2.2.2.2.2.2.2.2.2.2.2.2.2.2.2.1
theorem d_Law_law_987 : decode code 987 = .ok (.invokevirtual 95, 3) := F_Law_law_968.2.2.2.2.2.2.2.2.2.2.2.2.2.2.2.2.1
theorem d_Law_law_990 : decode code 990 = .ok (.aload_n 2, 1) := F_Law_law_968.2.2.2.2.2.2.2.2.2.2.2.2.2.2.2.2.2.1
theorem d_Law_law_991 : decode code 991 = .ok (.aload_n 0, 1) := F_Law_law_968.2.2.2.2.2.2.2.2.2.2.2.2.2.2.2.2.2.2.1
theorem d_Law_law_992 : decode code 992 = .ok (.iload 4, 2) := F_Law_law_968.2.2.2.2.2.2.2.2.2.2.2.2.2.2.2.2.2.2.2.1
theorem d_Law_law_994 : decode code 994 = .ok (.iconst 1, 1) := F_Law_law_968.2.2.2.2.2.2.2.2.2.2.2.2.2.2.2.2.2.2.2.2.1
theorem d_Law_law_995 : decode code 995 = .ok (.iadd, 1) := F_Law_law_968.2.2.2.2.2.2.2.2.2.2.2.2.2.2.2.2.2.2.2.2.2.1
theorem d_Law_law_996 : decode code 996 = .ok (.iaload, 1) := F_Law_law_968.2.2.2.2.2.2.2.2.2.2.2.2.2.2.2.2.2.2.2.2.2.2.1
theorem d_Law_law_997 : decode code 997 = .ok (.aload_n 0, 1) := F_Law_law_968.2.2.2.2.2.2.2.2.2.2.2.2.2.2.2.2.2.2.2.2.2.2.2.1
theorem d_Law_law_998 : decode code 998 = .ok (.iload 4, 2) := F_Law_law_968.2.2.2.2.2.2.2.2.2.2.2.2.2.2.2.2.2.2.2.2.2.2.2.2.1
theorem d_Law_law_1000 : decode code 1000 = .ok (.iconst 2, 1) := F_Law_law_968.2.2.2.2.2.2.2.2.2.2.2.2.2.2.2.2.2.2.2.2.2.2.2.2.2.1
theorem d_Law_law_1001 : decode code 1001 = .ok (.iadd, 1) := F_Law_law_968.2.2.2.2.2.2.2.2.2.2.2.2.2.2.2.2.2.2.2.2.2.2.2.2.2.2.1
theorem d_Law_law_1002 : decode code 1002 = .ok (.iaload, 1) := F_Law_law_968.2.2.2.2.2.2.2.2.2.2.2.2.2.2.2.2.2.2.2.2.2.2.2.2.2.2.2.1
theorem d_Law_law_1003 : decode code 1003 = .ok (.aload_n 0, 1) := F_Law_law_968.2.2.2.2.2.2.2.2.2.2.2.2.2.2.2.2.2.2.2.2.2.2.2.2.2.2.2.2.1
theorem d_Law_law_1004 : decode code 1004 = .ok (.iload 4, 2) := F_Law_law_968.2.2.2.2.2.2.2.2.2.2.2.2.2.2.2.2.2.2.2.2.2.2.2.2.2.2.2.2.2.1
theorem d_Law_law_1006 : decode code 1006 = .ok (.iconst 3, 1) := F_Law_law_968.2.2.2.2.2.2.2.2.2.2.2.2.2.2.2.2.2.2.2.2.2.2.2.2.2.2.2.2.2.2.1
theorem d_Law_law_1007 : decode code 1007 = .ok (.iadd, 1) := F_Law_law_968.2.2.2.2.2.2.2.2.2.2.2.2.2.2.2.2.2.2.2.2.2.2.2.2.2.2.2.2.2.2.2.1
theorem F_Law_law_1008 : Jvm.Free.DS.Facts code 1008 [(.iaload, 1), (.invokevirtual 98, 3), (.if_icmp .eq (2359), 3)] := Jvm.Free.DS.facts 1008 _ (by decide +kernel) (by decide +kernel)
theorem d_Law_law_1008 : decode code 1008 = .ok (.iaload, 1) := F_Law_law_1008.1
theorem d_Law_law_1009 : decode code 1009 = .ok (.invokevirtual 98, 3) := F_Law_law_1008.2.1
theorem d_Law_law_1012 : decode code 1012 = .ok (.if_icmp .eq (2359), 3) := F_Law_law_1008.2.2.1
theorem F_Law_law_1017 : Jvm.Free.DS.Facts code 1017 [(.aload_n 1, 1), (.aload_n 0, 1), (.iload 4, 2), (.iconst 1, 1), (.iadd, 1), (.iaload, 1), (.invokevirtual 99, 3), (.aload_n 2, 1), (.aload_n 0, 1), (.iload 4, 2), (.iconst 1, 1), (.iadd, 1), (.iaload, 1), (.invokevirtual 102, 3), (.if_icmp .eq (2334), 3)] := Jvm.Free.DS.facts 1017 _ (by decide +kernel) (by decide +kernel)
theorem d_Law_law_1017 : decode code 1017 = .ok (.aload_n 1, 1) := F_Law_law_1017.1
theorem d_Law_law_1018 : decode code 1018 = .ok (.aload_n 0, 1) := F_Law_law_1017.2.1
theorem d_Law_law_1019 : decode code 1019 = .ok (.iload 4, 2) := F_Law_law_1017.2.2.1
theorem d_Law_law_1021 : decode code 1021 = .ok (.iconst 1, 1) := F_Law_law_1017.2.2.2.1
theorem d_Law_law_1022 : decode code 1022 = .ok (.iadd, 1) := F_Law_law_1017.2.2.2.2.1
theorem d_Law_law_1023 : decode code 1023 = .ok (.iaload, 1) := F_Law_law_1017.2.2.2.2.2.1
theorem d_Law_law_1024 : decode code 1024 = .ok (.invokevirtual 99, 3) := F_Law_law_1017.2.2.2.2.2.2.1
theorem d_Law_law_1027 : decode code 1027 = .ok (.aload_n 2, 1) := F_Law_law_1017.2.2.2.2.2.2.2.1
theorem d_Law_law_1028 : decode code 1028 = .ok (.aload_n 0, 1) := F_Law_law_1017.2.2.2.2.2.2.2.2.1
theorem d_Law_law_1029 : decode code 1029 = .ok (.iload 4, 2) := F_Law_law_1017.2.2.2.2.2.2.2.2.2.1
theorem d_Law_law_1031 : decode code 1031 = .ok (.iconst 1, 1) := F_Law_law_1017.2.2.2.2.2.2.2.2.2.2.1
theorem d_Law_law_1032 : decode code 1032 = .ok (.iadd, 1) := F_Law_law_1017.2.2.2.2.2.2.2.2.2.2.2.1
theorem d_Law_law_1033 : decode code 1033 = .ok (.iaload, 1) := F_Law_law_1017.2.2.2.2.2.2.2.2.2.2.2.2.1
theorem d_Law_law_1034 : decode code 1034 = .ok (.invokevirtual 102, 3) := F_Law_law_1017.2.2.2.2.2.2.2.2.2.2.2.2.2.1
theorem d_Law_law_1037 : decode code 1037 = .ok (.if_icmp .eq (2334), 3) := F_Law_law_1017.2.2.2.2.2.2.2.2.2.2.2.2.2.2.1
theorem F_Law_law_1042 : Jvm.Free.DS.Facts code 1042 [(.aload_n 1, 1), (.invokevirtual 103, 3), (.aload_n 2, 1), (.invokevirtual 106, 3), (.if_icmp .eq (2321), 3)] := Jvm.Free.DS.facts 1042 _ (by decide +kernel) (by decide +kernel)
theorem d_Law_law_1042 : decode code 1042 = .ok (.aload_n 1, 1) := F_Law_law_1042.1
theorem d_Law_law_1043 : decode code 1043 = .ok (.invokevirtual 103, 3) := F_Law_law_1042.2.1
theorem d_Law_law_1046 : decode code 1046 = .ok (.aload_n 2, 1) := F_Law_law_1042.2.2.1
theorem d_Law_law_1047 : decode code 1047 = .ok (.invokevirtual 106, 3) := F_Law_law_1042.2.2.2.1
theorem d_Law_law_1050 : decode code 1050 = .ok (.if_icmp .eq (2321), 3) := F_Law_law_1042.2.2.2.2.1
theorem F_Law_law_1055 : Jvm.Free.DS.Facts code 1055 [(.aload_n 1, 1), (.aload_n 0, 1), (.iload 4, 2), (.iconst 1, 1), (.iadd, 1), (.iaload, 1), (.aload_n 0, 1), (.iload 4, 2), (.iconst 2, 1), (.iadd, 1), (.iaload, 1), (.aload_n 0, 1), (.iload 4, 2), (.iconst 3, 1), (.iadd, 1), (.iaload, 1), (.aload_n 0, 1), (.iload 4, 2), (.iconst 4, 1), (.iadd, 1), (.iaload, 1), (.aload_n 0, 1), (.iload 4, 2), (.iconst 5, 1), (.iadd, 1), (.iaload, 1), (.invokevirtual 107, 3), (.aload_n 2, 1), (.aload_n 0, 1), (.iload 4, 2), (.iconst 1, 1), (.iadd, 1)] := Jvm.Free.DS.facts 1055 _ (by decide +kernel) (by decide +kernel)
theorem d_Law_law_1055 : decode code 1055 = .ok (.aload_n 1, 1) := F_Law_law_1055.1
theorem d_Law_law_1056 : decode code 1056 = .ok (.aload_n 0, 1) := F_Law_law_1055.2.1
theorem d_Law_law_1057 : decode code 1057 = .ok (.iload 4, 2) := F_Law_law_1055.2.2.1
theorem d_Law_law_1059 : decode code 1059 = .ok (.iconst 1, 1) := F_Law_law_1055.2.2.2.1
theorem d_Law_law_1060 : decode code 1060 = .ok (.iadd, 1) := F_Law_law_1055.2.2.2.2.1
theorem d_Law_law_1061 : decode code 1061 = .ok (.iaload, 1) := F_Law_law_1055.2.2.2.2.2.1
theorem d_Law_law_1062 : decode code 1062 = .ok (.aload_n 0, 1) := F_Law_law_1055.2.2.2.2.2.2.1
theorem d_Law_law_1063 : decode code 1063 = .ok (.iload 4, 2) := F_Law_law_1055.2.2.2.2.2.2.2.1
theorem d_Law_law_1065 : decode code 1065 = .ok (.iconst 2, 1) := F_Law_law_1055.2.2.2.2.2.2.2.2.1
theorem d_Law_law_1066 : decode code 1066 = .ok (.iadd, 1) := F_Law_law_1055.2.2.2.2.2.2.2.2.2.1
theorem d_Law_law_1067 : decode code 1067 = .ok (.iaload, 1) := F_Law_law_1055.2.2.2.2.2.2.2.2.2.2.1
theorem d_Law_law_1068 : decode code 1068 = .ok (.aload_n 0, 1) := F_Law_law_1055.2.2.2.2.2.2.2.2.2.2.2.1
theorem d_Law_law_1069 : decode code 1069 = .ok (.iload 4, 2) := F_Law_law_1055.2.2.2.2.2.2.2.2.2.2.2.2.1
theorem d_Law_law_1071 : decode code 1071 = .ok (.iconst 3, 1) := F_Law_law_1055.2.2.2.2.2.2.2.2.2.2.2.2.2.1
theorem d_Law_law_1072 : decode code 1072 = .ok (.iadd, 1) := F_Law_law_1055.2.2.2.2.2.2.2.2.2.2.2.2.2.2.1
theorem d_Law_law_1073 : decode code 1073 = .ok (.iaload, 1) := F_Law_law_1055.2.2.2.2.2.2.2.2.2.2.2.2.2.2.2.1
theorem d_Law_law_1074 : decode code 1074 = .ok (.aload_n 0, 1) := F_Law_law_1055.2.2.2.2.2.2.2.2.2.2.2.2.2.2.2.2.1
theorem d_Law_law_1075 : decode code 1075 = .ok (.iload 4, 2) := F_Law_law_1055.2.2.2.2.2.2.2.2.2.2.2.2.2.2.2.2.2.1
theorem d_Law_law_1077 : decode code 1077 = .ok (.iconst 4, 1) := F_Law_law_1055.2.2.2.2.2.2.2.2.2.2.2.2.2.2.2.2.2.2.1
theorem d_Law_law_1078 : decode code 1078 = .ok (.iadd, 1) := F_Law_law_1055.2.2.2.2.2.2.2.2.2.2.2.2.2.2.2.2.2.2.2.1
theorem d_Law_law_1079 : decode code 1079 = .ok (.iaload, 1) := F_Law_law_1055.2.2.2.2.2.2.2.2.2.2.2.2.2.2.2.2.2.2.2.2.1
theorem d_Law_law_1080 : decode code 1080 = .ok (.aload_n 0, 1) := F_Law_law_1055.2.2.2.2.2.2.2.2.2.2.2.2.2.2.2.2.2.2.2.2.2.1
theorem d_Law_law_1081 : decode code 1081 = .ok (.iload 4, 2) := F_Law_law_1055.2.2.2.2.2.2.2.2.2.2.2.2.2.2.2.2.2.2.2.2.2.2.1
theorem d_Law_law_1083 : decode code 1083 = .ok (.iconst 5, 1) := F_Law_law_1055.2.2.2.2.2.2.2.2.2.2.2.2.2.2.2.2.2.2.2.2.2.2.2.1
theorem d_Law_law_1084 : decode code 1084 = .ok (.iadd, 1) := F_Law_law_1055.2.2.2.2.2.2.2.2.2.2.2.2.2.2.2.2.2.2.2.2.2.2.2.2.1
theorem d_Law_law_1085 : decode code 1085 = .ok (.iaload, 1) := F_Law_law_1055.2.2.2.2.2.2.2.2.2.2.2.2.2.2.2.2.2.2.2.2.2.2.2.2.2.1
theorem d_Law_law_1086 : decode code 1086 = .ok (.invokevirtual 107, 3) := F_Law_law_1055.2.2.2.2.2.2.2.2.2.2.2.2.2.2.2.2.2.2.2.2.2.2.2.2.2.2.1
theorem d_Law_law_1089 : decode code 1089 = .ok (.aload_n 2, 1) := F_Law_law_1055.2.2.2.2.2.2.2.2.2.2.2.2.2.2.2.2.2.2.2.2.2.2.2.2.2.2.2.1
theorem d_Law_law_1090 : decode code 1090 = .ok (.aload_n 0, 1) := F_Law_law_1055.2.2.2.2.2.2.2.2.2.2.2.2.2.2.2.2.2.2.2.2.2.2.2.2.2.2.2.2.1
theorem d_Law_law_1091 : decode code 1091 = .ok (.iload 4, 2) := F_Law_law_1055.2.2.2.2.2.2.2.2.2.2.2.2.2.2.2.2.2.2.2.2.2.2.2.2.2.2.2.2.2.1
theorem d_Law_law_1093 : decode code 1093 = .ok (.iconst 1, 1) := F_Law_law_1055.2.2.2.2.2.2.2.2.2.2.2.2.2.2.2.2.2.2.2.2.2.2.2.2.2.2.2.2.2.2.1
theorem d_Law_law_1094 : decode code 1094 = .ok (.iadd, 1) := F_Law_law_1055.2.2.2.2.2.2.2.2.2.2.2.2.2.2.2.2.2.2.2.2.2.2.2.2.2.2.2.2.2.2.2.1
theorem F_Law_law_1095 : Jvm.Free.DS.Facts code 1095 [(.iaload, 1), (.aload_n 0, 1), (.iload 4, 2), (.iconst 2, 1), (.iadd, 1), (.iaload, 1), (.aload_n 0, 1), (.iload 4, 2), (.iconst 3, 1), (.iadd, 1), (.iaload, 1), (.aload_n 0, 1), (.iload 4, 2), (.iconst 4, 1), (.iadd, 1), (.iaload, 1), (.aload_n 0, 1), (.iload 4, 2), (.iconst 5, 1), (.iadd, 1), (.iaload, 1), (.invokevirtual 111, 3), (.lcmp, 1), (.ifCond .eq (2247), 3)] := Jvm.Free.DS.facts 1095 _ (by decide +kernel) (by decide +kernel)
theorem d_Law_law_1095 : decode code 1095 = .ok (.iaload, 1) := F_Law_law_1095.1
theorem d_Law_law_1096 : decode code 1096 = .ok (.aload_n 0, 1) := F_Law_law_1095.2.1
theorem d_Law_law_1097 : decode code 1097 = .ok (.iload 4, 2) := F_Law_law_1095.2.2.1
theorem d_Law_law_1099 : decode code 1099 = .ok (.iconst 2, 1) := F_Law_law_1095.2.2.2.1
theorem d_Law_law_1100 : decode code 1100 = .ok (.iadd, 1) := F_Law_law_1095.2.2.2.2.1
theorem d_Law_law_1101 : decode code 1101 = .ok (.iaload, 1) := F_Law_law_1095.2.2.2.2.2.1
theorem d_Law_law_1102 : decode code 1102 = .ok (.aload_n 0, 1) := F_Law_law_1095.2.2.2.2.2.2.1
theorem d_Law_law_1103 : decode code 1103 = .ok (.iload 4, 2) := F_Law_law_1095.2.2.2.2.2.2.2.1
theorem d_Law_law_1105 : decode code 1105 = .ok (.iconst 3, 1) := F_Law_law_1095.2.2.2.2.2.2.2.2.1
theorem d_Law_law_1106 : decode code 1106 = .ok (.iadd, 1) := F_Law_law_1095.2.2.2.2.2.2.2.2.2.1
theorem d_Law_law_1107 : decode code 1107 = .ok (.iaload, 1) := F_Law_law_1095.2.2.2.2.2.2.2.2.2.2.1
theorem d_Law_law_1108 : decode code 1108 = .ok (.aload_n 0, 1) := F_Law_law_1095.2.2.2.2.2.2.2.2.2.2.2.1
theorem d_Law_law_1109 : decode code 1109 = .ok (.iload 4, 2) := F_Law_law_1095.2.2.2.2.2.2.2.2.2.2.2.2.1
theorem d_Law_law_1111 : decode code 1111 = .ok (.iconst 4, 1) := F_Law_law_1095.2.2.2.2.2.2.2.2.2.2.2.2.2.1
theorem d_Law_law_1112 : decode code 1112 = .ok (.iadd, 1) := F_Law_law_1095.2.2.2.2.2.2.2.2.2.2.2.2.2.2.1
theorem d_Law_law_1113 : decode code 1113 = .ok (.iaload, 1) := F_Law_law_1095.2.2.2.2.2.2.2.2.2.2.2.2.2.2.2.1
theorem d_Law_law_1114 : decode code 1114 = .ok (.aload_n 0, 1) := F_Law_law_1095.2.2.2.2.2.2.2.2.2.2.2.2.2.2.2.2.1
theorem d_Law_law_1115 : decode code 1115 = .ok (.iload 4, 2) := F_Law_law_1095.2.2.2.2.2.2.2.2.2.2.2.2.2.2.2.2.2.1
theorem d_Law_law_1117 : decode code 1117 = .ok (.iconst 5, 1) := F_Law_law_1095.2.2.2.2.2.2.2.2.2.2.2.2.2.2.2.2.2.2.1
theorem d_Law_law_1118 : decode code 1118 = .ok (.iadd, 1) := F_Law_law_1095.2.2.2.2.2.2.2.2.2.2.2.2.2.2.2.2.2.2.2.1
theorem d_Law_law_1119 : decode code 1119 = .ok (.iaload, 1) := F_Law_law_1095.2.2.2.2.2.2.2.2.2.2.2.2.2.2.2.2.2.2.2.2.1
theorem d_Law_law_1120 : decode code 1120 = .ok (.invokevirtual 111, 3) := F_Law_law_1095.2.2.2.2.2.2.2.2.2.2.2.2.2.2.2.2.2.2.2.2.2.1
theorem d_Law_law_1123 : decode code 1123 = .ok (.lcmp, 1) := F_Law_law_1095.2.2.2.2.2.2.2.2.2.2.2.2.2.2.2.2.2.2.2.2.2.2.1
theorem d_Law_law_1124 : decode code 1124 = .ok (.ifCond .eq (2247), 3) := F_Law_law_1095.2.2.2.2.2.2.2.2.2.2.2.2.2.2.2.2.2.2.2.2.2.2.2.1
theorem F_Law_law_1129 : Jvm.Free.DS.Facts code 1129 [(.aload_n 1, 1), (.aload_n 0, 1), (.iload 4, 2), (.iconst 1, 1), (.iadd, 1), (.iaload, 1), (.aload_n 0, 1), (.iload 4, 2), (.iconst 2, 1), (.iadd, 1), (.iaload, 1), (.aload_n 0, 1), (.iload 4, 2), (.iconst 3, 1), (.iadd, 1), (.iaload, 1), (.aload_n 0, 1), (.iload 4, 2), (.iconst 4, 1), (.iadd, 1), (.iaload, 1), (.aload_n 0, 1), (.iload 4, 2), (.iconst 5, 1), (.iadd, 1), (.iaload, 1), (.invokevirtual 112, 3), (.aload_n 2, 1), (.aload_n 0, 1), (.iload 4, 2), (.iconst 1, 1), (.iadd, 1)] := Jvm.Free.DS.facts 1129 _ (by decide +kernel) (by decide +kernel)
theorem d_Law_law_1129 : decode code 1129 = .ok (.aload_n 1, 1) := F_Law_law_1129.1
theorem d_Law_law_1130 : decode code 1130 = .ok (.aload_n 0, 1) := F_Law_law_1129.2.1
theorem d_Law_law_1131 : decode code 1131 = .ok (.iload 4, 2) := F_Law_law_1129.2.2.1
theorem d_Law_law_1133 : decode code 1133 = .ok (.iconst 1, 1) := F_Law_law_1129.2.2.2.1
theorem d_Law_law_1134 : decode code 1134 = .ok (.iadd, 1) := F_Law_law_1129.2.2.2.2.1
theorem d_Law_law_1135 : decode code 1135 = .ok (.iaload, 1) := F_Law_law_1129.2.2.2.2.2.1
theorem d_Law_law_1136 : decode code 1136 = .ok (.aload_n 0, 1) := F_Law_law_1129.2.2.2.2.2.2.1
theorem d_Law_law_1137 : decode code 1137 = .ok (.iload 4, 2) := F_Law_law_1129.2.2.2.2.2.2.2.1
theorem d_Law_law_1139 : decode code 1139 = .ok (.iconst 2, 1) := F_Law_law_1129.2.2.2.2.2.2.2.2.1
theorem d_Law_law_1140 : decode code 1140 = .ok (.iadd, 1) := F_Law_law_1129.2.2.2.2.2.2.2.2.2.1
theorem d_Law_law_1141 : decode code 1141 = .ok (.iaload, 1) := F_Law_law_1129.2.2.2.2.2.2.2.2.2.2.1
theorem d_Law_law_1142 : decode code 1142 = .ok (.aload_n 0, 1) := F_Law_law_1129.2.2.2.2.2.2.2.2.2.2.2.1
theorem d_Law_law_1143 : decode code 1143 = .ok (.iload 4, 2) := F_Law_law_1129.2.2.2.2.2.2.2.2.2.2.2.2.1
theorem d_Law_law_1145 : decode code 1145 = .ok (.iconst 3, 1) := F_Law_law_1129.2.2.2.2.2.2.2.2.2.2.2.2.2.1
theorem d_Law_law_1146 : decode code 1146 = .ok (.iadd, 1) := F_Law_law_1129.2.2.2.2.2.2.2.2.2.2.2.2.2.2.1
theorem d_Law_law_1147 : decode code 1147 = .ok (.iaload, 1) := F_Law_law_1129.2.2.2.2.2.2.2.2.2.2.2.2.2.2.2.1
theorem d_Law_law_1148 : decode code 1148 = .ok (.aload_n 0, 1) := F_Law_law_1129.2.2.2.2.2.2.2.2.2.2.2.2.2.2.2.2.1
theorem d_Law_law_1149 : decode code 1149 = .ok (.iload 4, 2) := F_Law_law_1129.2.2.2.2.2.2.2.2.2.2.2.2.2.2.2.2.2.1
theorem d_Law_law_1151 : decode code 1151 = .ok (.iconst 4, 1) := F_Law_law_1129.2.2.2.2.2.2.2.2.2.2.2.2.2.2.2.2.2.2.1
theorem d_Law_law_1152 : decode code 1152 = .ok (.iadd, 1) := F_Law_law_1129.2.2.2.2.2.2.2.2.2.2.2.2.2.2.2.2.2.2.2.1
theorem d_Law_law_1153 : decode code 1153 = .ok (.iaload, 1) := F_Law_law_1129.2.2.2.2.2.2.2.2.2.2.2.2.2.2.2.2.2.2.2.2.1
theorem d_Law_law_1154 : decode code 1154 = .ok (.aload_n 0, 1) := F_Law_law_1129.2.2.2.2.2.2.2.2.2.2.2.2.2.2.2.2.2.2.2.2.2.1
theorem d_Law_law_1155 : decode code 1155 = .ok (.iload 4, 2) := F_Law_law_1129.2.2.2.2.2.2.2.2.2.2.2.2.2.2.2.2.2.2.2.2.2.2.1
theorem d_Law_law_1157 : decode code 1157 = .ok (.iconst 5, 1) := F_Law_law_1129.2.2.2.2.2.2.2.2.2.2.2.2.2.2.2.2.2.2.2.2.2.2.2.1
theorem d_Law_law_1158 : decode code 1158 = .ok (.iadd, 1) := F_Law_law_1129.2.2.2.2.2.2.2.2.2.2.2.2.2.2.2.2.2.2.2.2.2.2.2.2.1
theorem d_Law_law_1159 : decode code 1159 = .ok (.iaload, 1) := F_Law_law_1129.2.2.2.2.2.2.2.2.2.2.2.2.2.2.2.2.2.2.2.2.2.2.2.2.2.1
theorem d_Law_law_1160 : decode code 1160 = .ok (.invokevirtual 112, 3) := F_Law_law_1129.2.2.2.2.2.2.2.2.2.2.2.2.2.2.2.2.2.2.2.2.2.2.2.2.2.2.1
theorem d_Law_law_1163 : decode code 1163 = .ok (.aload_n 2, 1) := F_Law_law_1129.2.2.2.2.2.2.2.2.2.2.2.2.2.2.2.2.2.2.2.2.2.2.2.2.2.2.2.1
theorem d_Law_law_1164 : decode code 1164 = .ok (.aload_n 0, 1) := F_Law_law_1129.2.2.2.2.2.2.2.2.2.2.2.2.2.2.2.2.2.2.2.2.2.2.2.2.2.2.2.2.1
theorem d_Law_law_1165 : decode code 1165 = .ok (.iload 4, 2) := F_Law_law_1129.2.2.2.2.2.2.2.2.2.2.2.2.2.2.2.2.2.2.2.2.2.2.2.2.2.2.2.2.2.1
theorem d_Law_law_1167 : decode code 1167 = .ok (.iconst 1, 1) := F_Law_law_1129.2.2.2.2.2.2.2.2.2.2.2.2.2.2.2.2.2.2.2.2.2.2.2.2.2.2.2.2.2.2.1
theorem d_Law_law_1168 : decode code 1168 = .ok (.iadd, 1) := F_Law_law_1129.2.2.2.2.2.2.2.2.2.2.2.2.2.2.2.2.2.2.2.2.2.2.2.2.2.2.2.2.2.2.2.1
theorem F_Law_law_1169 : Jvm.Free.DS.Facts code 1169 [(.iaload, 1), (.aload_n 0, 1), (.iload 4, 2), (.iconst 2, 1), (.iadd, 1), (.iaload, 1), (.aload_n 0, 1), (.iload 4, 2), (.iconst 3, 1), (.iadd, 1), (.iaload, 1), (.aload_n 0, 1), (.iload 4, 2), (.iconst 4, 1), (.iadd, 1), (.iaload, 1), (.aload_n 0, 1), (.iload 4, 2), (.iconst 5, 1), (.iadd, 1), (.iaload, 1), (.invokevirtual 115, 3), (.lcmp, 1), (.ifCond .eq (2173), 3)] := Jvm.Free.DS.facts 1169 _ (by decide +kernel) (by decide +kernel)
theorem d_Law_law_1169 : decode code 1169 = .ok (.iaload, 1) := F_Law_law_1169.1
theorem d_Law_law_1170 : decode code 1170 = .ok (.aload_n 0, 1) := F_Law_law_1169.2.1
theorem d_Law_law_1171 : decode code 1171 = .ok (.iload 4, 2) := F_Law_law_1169.2.2.1
theorem d_Law_law_1173 : decode code 1173 = .ok (.iconst 2, 1) := F_Law_law_1169.2.2.2.1
theorem d_Law_law_1174 : decode code 1174 = .ok (.iadd, 1) := F_Law_law_1169.2.2.2.2.1
theorem d_Law_law_1175 : decode code 1175 = .ok (.iaload, 1) := F_Law_law_1169.2.2.2.2.2.1
theorem d_Law_law_1176 : decode code 1176 = .ok (.aload_n 0, 1) := F_Law_law_1169.2.2.2.2.2.2.1
theorem d_Law_law_1177 : decode code 1177 = .ok (.iload 4, 2) := F_Law_law_1169.2.2.2.2.2.2.2.1
theorem d_Law_law_1179 : decode code 1179 = .ok (.iconst 3, 1) := F_Law_law_1169.2.2.2.2.2.2.2.2.1
theorem d_Law_law_1180 : decode code 1180 = .ok (.iadd, 1) := F_Law_law_1169.2.2.2.2.2.2.2.2.2.1
theorem d_Law_law_1181 : decode code 1181 = .ok (.iaload, 1) := F_Law_law_1169.2.2.2.2.2.2.2.2.2.2.1
theorem d_Law_law_1182 : decode code 1182 = .ok (.aload_n 0, 1) := F_Law_law_1169.2.2.2.2.2.2.2.2.2.2.2.1
theorem d_Law_law_1183 : decode code 1183 = .ok (.iload 4, 2) := F_Law_law_1169.2.2.2.2.2.2.2.2.2.2.2.2.1
theorem d_Law_law_1185 : decode code 1185 = .ok (.iconst 4, 1) := F_Law_law_1169.2.2.2.2.2.2.2.2.2.2.2.2.2.1
theorem d_Law_law_1186 : decode code 1186 = .ok (.iadd, 1) := F_Law_law_1169.2.2.2.2.2.2.2.2.2.2.2.2.2.2.1
theorem d_Law_law_1187 : decode code 1187 = .ok (.iaload, 1) := F_Law_law_1169.2.2.2.2.2.2.2.2.2.2.2.2.2.2.2.1
theorem d_Law_law_1188 : decode code 1188 = .ok (.aload_n 0, 1) := F_Law_law_1169.2.2.2.2.2.2.2.2.2.2.2.2.2.2.2.2.1
theorem d_Law_law_1189 : decode code 1189 = .ok (.iload 4, 2) := F_Law_law_1169.2.2.2.2.2.2.2.2.2.2.2.2.2.2.2.2.2.1
theorem d_Law_law_1191 : decode code 1191 = .ok (.iconst 5, 1) := F_Law_law_1169.2.2.2.2.2.2.2.2.2.2.2.2.2.2.2.2.2.2.1
theorem d_Law_law_1192 : decode code 1192 = .ok (.iadd, 1) := F_Law_law_1169.2.2.2.2.2.2.2.2.2.2.2.2.2.2.2.2.2.2.2.1
theorem d_Law_law_1193 : decode code 1193 = .ok (.iaload, 1) := F_Law_law_1169.2.2.2.2.2.2.2.2.2.2.2.2.2.2.2.2.2.2.2.2.1
theorem d_Law_law_1194 : decode code 1194 = .ok (.invokevirtual 115, 3) := F_Law_law_1169.2.2.2.2.2.2.2.2.2.2.2.2.2.2.2.2.2.2.2.2.2.1
theorem d_Law_law_1197 : decode code 1197 = .ok (.lcmp, 1) := F_Law_law_1169.2.2.2.2.2.2.2.2.2.2.2.2.2.2.2.2.2.2.2.2.2.2.1
theorem d_Law_law_1198 : decode code 1198 = .ok (.ifCond .eq (2173), 3) := F_Law_law_1169.2.2.2.2.2.2.2.2.2.2.2.2.2.2.2.2.2.2.2.2.2.2.2.1
theorem F_Law_law_1203 : Jvm.Free.DS.Facts code 1203 [(.aload_n 1, 1), (.aload_n 0, 1), (.iload 4, 2), (.iconst 1, 1), (.iadd, 1), (.iaload, 1), (.aload_n 0, 1), (.iload 4, 2), (.iconst 2, 1), (.iadd, 1), (.iaload, 1), (.aload_n 0, 1), (.iload 4, 2), (.iconst 3, 1), (.iadd, 1), (.iaload, 1), (.aload_n 0, 1), (.iload 4, 2), (.iconst 4, 1), (.iadd, 1), (.iaload, 1), (.aload_n 0, 1), (.iload 4, 2), (.iconst 5, 1), (.iadd, 1), (.iaload, 1), (.invokevirtual 116, 3), (.aload_n 2, 1), (.aload_n 0, 1), (.iload 4, 2), (.iconst 1, 1), (.iadd, 1)] := Jvm.Free.DS.facts 1203 _ (by decide +kernel) (by decide +kernel)
theorem d_Law_law_1203 : decode code 1203 = .ok (.aload_n 1, 1) := F_Law_law_1203.1
theorem d_Law_law_1204 : decode code 1204 = .ok (.aload_n 0, 1) := F_Law_law_1203.2.1
theorem d_Law_law_1205 : decode code 1205 = .ok (.iload 4, 2) := F_Law_law_1203.2.2.1
theorem d_Law_law_1207 : decode code 1207 = .ok (.iconst 1, 1) := F_Law_law_1203.2.2.2.1
theorem d_Law_law_1208 : decode code 1208 = .ok (.iadd, 1) := F_Law_law_1203.2.2.2.2.1
theorem d_Law_law_1209 : decode code 1209 = .ok (.iaload, 1) := F_Law_law_1203.2.2.2.2.2.1
theorem d_Law_law_1210 : decode code 1210 = .ok (.aload_n 0, 1) := F_Law_law_1203.2.2.2.2.2.2.1
theorem d_Law_law_1211 : decode code 1211 = .ok (.iload 4, 2) := F_Law_law_1203.2.2.2.2.2.2.2.1
theorem d_Law_law_1213 : decode code 1213 = .ok (.iconst 2, 1) := F_Law_law_1203.2.2.2.2.2.2.2.2.1
theorem d_Law_law_1214 : decode code 1214 = .ok (.iadd, 1) := F_Law_law_1203.2.2.2.2.2.2.2.2.2.1
theorem d_Law_law_1215 : decode code 1215 = .ok (.iaload, 1) := F_Law_law_1203.2.2.2.2.2.2.2.2.2.2.1
theorem d_Law_law_1216 : decode code 1216 = .ok (.aload_n 0, 1) := F_Law_law_1203.2.2.2.2.2.2.2.2.2.2.2.1
theorem d_Law_law_1217 : decode code 1217 = .ok (.iload 4, 2) := F_Law_law_1203.2.2.2.2.2.2.2.2.2.2.2.2.1
theorem d_Law_law_1219 : decode code 1219 = .ok (.iconst 3, 1) := F_Law_law_1203.2.2.2.2.2.2.2.2.2.2.2.2.2.1
theorem d_Law_law_1220 : decode code 1220 = .ok (.iadd, 1) := F_Law_law_1203.2.2.2.2.2.2.2.2.2.2.2.2.2.2.1
theorem d_Law_law_1221 : decode code 1221 = .ok (.iaload, 1) := F_Law_law_1203.2.2.2.2.2.2.2.2.2.2.2.2.2.2.2.1
theorem d_Law_law_1222 : decode code 1222 = .ok (.aload_n 0, 1) := F_Law_law_1203.2.2.2.2.2.2.2.2.2.2.2.2.2.2.2.2.1
theorem d_Law_law_1223 : decode code 1223 = .ok (.iload 4, 2) := F_Law_law_1203.2.2.2.2.2.2.2.2.2.2.2.2.2.2.2.2.2.1
theorem d_Law_law_1225 : decode code 1225 = .ok (.iconst 4, 1) := F_Law_law_1203.2.2.2.2.2.2.2.2.2.2.2.2.2.2.2.2.2.2.1
theorem d_Law_law_1226 : decode code 1226 = .ok (.iadd, 1) := F_Law_law_1203.2.2.2.2.2.2.2.2.2.2.2.2.2.2.2.2.2.2.2.1
theorem d_Law_law_1227 : decode code 1227 = .ok (.iaload, 1) := F_Law_law_1203.2.2.2.2.2.2.2.2.2.2.2.2.2.2.2.2.2.2.2.2.1
theorem d_Law_law_1228 : decode code 1228 = .ok (.aload_n 0, 1) := F_Law_law_1203.2.2.2.2.2.2.2.2.2.2.2.2.2.2.2.2.2.2.2.2.2.1
theorem d_Law_law_1229 : decode code 1229 = .ok (.iload 4, 2) := F_Law_law_1203.2.2.2.2.2.2.2.2.2.2.2.2.2.2.2.2.2.2.2.2.2.2.1
theorem d_Law_law_1231 : decode code 1231 = .ok (.iconst 5, 1) := F_Law_law_1203.2.2.2.2.2.2.2.2.2.2.2.2.2.2.2.2.2.2.2.2.2.2.2.1
theorem d_Law_law_1232 : decode code 1232 = .ok (.iadd, 1) := F_Law_law_1203.2.2.2.2.2.2.2.2.2.2.2.2.2.2.2.2.2.2.2.2.2.2.2.2.1
theorem d_Law_law_1233 : decode code 1233 = .ok (.iaload, 1) := F_Law_law_1203.2.2.2.2.2.2.2.2.2.2.2.2.2.2.2.2.2.2.2.2.2.2.2.2.2.1
theorem d_Law_law_1234 : decode code 1234 = .ok (.invokevirtual 116, 3) := F_Law_law_1203.2.2.2.2.2.2.2.2.2.2.2.2.2.2.2.2.2.2.2.2.2.2.2.2.2.2.1
theorem d_Law_law_1237 : decode code 1237 = .ok (.aload_n 2, 1) := F_Law_law_1203.2.2.2.2.2.2.2.2.2.2.2.2.2.2.2.2.2.2.2.2.2.2.2.2.2.2.2.1
theorem d_Law_law_1238 : decode code 1238 = .ok (.aload_n 0, 1) := F_Law_law_1203.2.2.2.2.2.2.2.2.2.2.2.2.2.2.2.2.2.2.2.2.2.2.2.2.2.2.2.2.1
theorem d_Law_law_1239 : decode code 1239 = .ok (.iload 4, 2) := F_Law_law_1203.2.2.2.2.2.2.2.2.2.2.2.2.2.2.2.2.2.2.2.2.2.2.2.2.2.2.2.2.2.1
theorem d_Law_law_1241 : decode code 1241 = .ok (.iconst 1, 1) := F_Law_law_1203.2.2.2.2.2.2.2.2.2.2.2.2.2.2.2.2.2.2.2.2.2.2.2.2.2.2.2.2.2.2.1
theorem d_Law_law_1242 : decode code 1242 = .ok (.iadd, 1) := F_Law_law_1203.2.2.2.2.2.2.2.2.2.2.2.2.2.2.2.2.2.2.2.2.2.2.2.2.2.2.2.2.2.2.2.1
theorem F_Law_law_1243 : Jvm.Free.DS.Facts code 1243 [(.iaload, 1), (.aload_n 0, 1), (.iload 4, 2), (.iconst 2, 1), (.iadd, 1), (.iaload, 1), (.aload_n 0, 1), (.iload 4, 2), (.iconst 3, 1), (.iadd, 1), (.iaload, 1), (.aload_n 0, 1), (.iload 4, 2), (.iconst 4, 1), (.iadd, 1), (.iaload, 1), (.aload_n 0, 1), (.iload 4, 2), (.iconst 5, 1), (.iadd, 1), (.iaload, 1), (.invokevirtual 119, 3), (.lcmp, 1), (.ifCond .eq (2099), 3)] := Jvm.Free.DS.facts 1243 _ (by decide +kernel) (by decide +kernel)
theorem d_Law_law_1243 : decode code 1243 = .ok (.iaload, 1) := F_Law_law_1243.1
theorem d_Law_law_1244 : decode code 1244 = .ok (.aload_n 0, 1) := F_Law_law_1243.2.1
theorem d_Law_law_1245 : decode code 1245 = .ok (.iload 4, 2) := F_Law_law_1243.2.2.1
theorem d_Law_law_1247 : decode code 1247 = .ok (.iconst 2, 1) := F_Law_law_1243.2.2.2.1
theorem d_Law_law_1248 : decode code 1248 = .ok (.iadd, 1) := F_Law_law_1243.2.2.2.2.1
theorem d_Law_law_1249 : decode code 1249 = .ok (.iaload, 1) := F_Law_law_1243.2.2.2.2.2.1
theorem d_Law_law_1250 : decode code 1250 = .ok (.aload_n 0, 1) := F_Law_law_1243.2.2.2.2.2.2.1
theorem d_Law_law_1251 : decode code 1251 = .ok (.iload 4, 2) := F_Law_law_1243.2.2.2.2.2.2.2.1
theorem d_Law_law_1253 : decode code 1253 = .ok (.iconst 3, 1) := F_Law_law_1243.2.2.2.2.2.2.2.2.1
theorem d_Law_law_1254 : decode code 1254 = .ok (.iadd, 1) := F_Law_law_1243.2.2.2.2.2.2.2.2.2.1
theorem d_Law_law_1255 : decode code 1255 = .ok (.iaload, 1) := F_Law_law_1243.2.2.2.2.2.2.2.2.2.2.1
theorem d_Law_law_1256 : decode code 1256 = .ok (.aload_n 0, 1) := F_Law_law_1243.2.2.2.2.2.2.2.2.2.2.2.1
theorem d_Law_law_1257 : decode code 1257 = .ok (.iload 4, 2) := F_Law_law_1243.2.2.2.2.2.2.2.2.2.2.2.2.1
theorem d_Law_law_1259 : decode code 1259 = .ok (.iconst 4, 1) := F_Law_law_1243.2.2.2.2.2.2.2.2.2.2.2.2.2.1
theorem d_Law_law_1260 : decode code 1260 = .ok (.iadd, 1) := F_Law_law_1243.2.2.2.2.2.2.2.2.2.2.2.2.2.2.1
theorem d_Law_law_1261 : decode code 1261 = .ok (.iaload, 1) := F_Law_law_1243.2.2.2.2.2.2.2.2.2.2.2.2.2.2.2.1
theorem d_Law_law_1262 : decode code 1262 = .ok (.aload_n 0, 1) := F_Law_law_1243.2.2.2.2.2.2.2.2.2.2.2.2.2.2.2.2.1
theorem d_Law_law_1263 : decode code 1263 = .ok (.iload 4, 2) := F_Law_law_1243.2.2.2.2.2.2.2.2.2.2.2.2.2.2.2.2.2.1
theorem d_Law_law_1265 : decode code 1265 = .ok (.iconst 5, 1) := F_Law_law_1243.2.2.2.2.2.2.2.2.2.2.2.2.2.2.2.2.2.2.1
theorem d_Law_law_1266 : decode code 1266 = .ok (.iadd, 1) := F_Law_law_1243.2.2.2.2.2.2.2.2.2.2.2.2.2.2.2.2.2.2.2.1
theorem d_Law_law_1267 : decode code 1267 = .ok (.iaload, 1) := F_Law_law_1243.2.2.2.2.2.2.2.2.2.2.2.2.2.2.2.2.2.2.2.2.1
theorem d_Law_law_1268 : decode code 1268 = .ok (.invokevirtual 119, 3) := F_Law_law_1243.2.2.2.2.2.2.2.2.2.2.2.2.2.2.2.2.2.2.2.2.2.1
theorem d_Law_law_1271 : decode code 1271 = .ok (.lcmp, 1) := F_Law_law_1243.2.2.2.2.2.2.2.2.2.2.2.2.2.2.2.2.2.2.2.2.2.2.1
theorem d_Law_law_1272 : decode code 1272 = .ok (.ifCond .eq (2099), 3) := F_Law_law_1243.2.2.2.2.2.2.2.2.2.2.2.2.2.2.2.2.2.2.2.2.2.2.2.1
theorem F_Law_law_1277 : Jvm.Free.DS.Facts code 1277 [(.aload_n 1, 1), (.aload_n 0, 1), (.iload 4, 2), (.iconst 1, 1), (.iadd, 1), (.iaload, 1), (.aload_n 0, 1), (.iload 4, 2), (.iconst 2, 1), (.iadd, 1), (.iaload, 1), (.invokevirtual 120, 3), (.aload_n 2, 1), (.aload_n 0, 1), (.iload 4, 2), (.iconst 1, 1), (.iadd, 1), (.iaload, 1), (.aload_n 0, 1), (.iload 4, 2), (.iconst 2, 1), (.iadd, 1), (.iaload, 1), (.invokevirtual 124, 3), (.lcmp, 1), (.ifCond .eq (2061), 3)] := Jvm.Free.DS.facts 1277 _ (by decide +kernel) (by decide +kernel)
theorem d_Law_law_1277 : decode code 1277 = .ok (.aload_n 1, 1) := F_Law_law_1277.1
theorem d_Law_law_1278 : decode code 1278 = .ok (.aload_n 0, 1) := F_Law_law_1277.2.1
theorem d_Law_law_1279 : decode code 1279 = .ok (.iload 4, 2) := F_Law_law_1277.2.2.1
theorem d_Law_law_1281 : decode code 1281 = .ok (.iconst 1, 1) := F_Law_law_1277.2.2.2.1
theorem d_Law_law_1282 : decode code 1282 = .ok (.iadd, 1) := F_Law_law_1277.2.2.2.2.1
theorem d_Law_law_1283 : decode code 1283 = .ok (.iaload, 1) := F_Law_law_1277.2.2.2.2.2.1
theorem d_Law_law_1284 : decode code 1284 = .ok (.aload_n 0, 1) := F_Law_law_1277.2.2.2.2.2.2.1
theorem d_Law_law_1285 : decode code 1285 = .ok (.iload 4, 2) := F_Law_law_1277.2.2.2.2.2.2.2.1
theorem d_Law_law_1287 : decode code 1287 = .ok (.iconst 2, 1) := F_Law_law_1277.2.2.2.2.2.2.2.2.1
theorem d_Law_law_1288 : decode code 1288 = .ok (.iadd, 1) := F_Law_law_1277.2.2.2.2.2.2.2.2.2.1
theorem d_Law_law_1289 : decode code 1289 = .ok (.iaload, 1) := F_Law_law_1277.2.2.2.2.2.2.2.2.2.2.1
theorem d_Law_law_1290 : decode code 1290 = .ok (.invokevirtual 120, 3) := F_Law_law_1277.2.2.2.2.2.2.2.2.2.2.2.1
theorem d_Law_law_1293 : decode code 1293 = .ok (.aload_n 2, 1) := F_Law_law_1277.2.2.2.2.2.2.2.2.2.2.2.2.1
theorem d_Law_law_1294 : decode code 1294 = .ok (.aload_n 0, 1) := F_Law_law_1277.2.2.2.2.2.2.2.2.2.2.2.2.2.1
theorem d_Law_law_1295 : decode code 1295 = .ok (.iload 4, 2) := F_Law_law_1277.2.2.2.2.2.2.2.2.2.2.2.2.2.2.1
theorem d_Law_law_1297 : decode code 1297 = .ok (.iconst 1, 1) := F_Law_law_1277.2.2.2.2.2.2.2.2.2.2.2.2.2.2.2.1
theorem d_Law_law_1298 : decode code 1298 = .ok (.iadd, 1) := F_Law_law_1277.2.2.2.2.2.2.2.2.2.2.2.2.2.2.2.2.1
theorem d_Law_law_1299 : decode code 1299 = .ok (.iaload, 1) := F_Law_law_1277.2.2.2.2.2.2.2.2.2.2.2.2.2.2.2.2.2.1
theorem d_Law_law_1300 : decode code 1300 = .ok (.aload_n 0, 1) := F_Law_law_1277.2.2.2.2.2.2.2.2.2.2.2.2.2.2.2.2.2.2.1
theorem d_Law_law_1301 : decode code 1301 = .ok (.iload 4, 2) := F_Law_law_1277.2.2.2.2.2.2.2.2.2.2.2.2.2.2.2.2.2.2.2.1
theorem d_Law_law_1303 : decode code 1303 = .ok (.iconst 2, 1) := F_Law_law_1277.2.2.2.2.2.2.2.2.2.2.2.2.2.2.2.2.2.2.2.2.1
theorem d_Law_law_1304 : decode code 1304 = .ok (.iadd, 1) := F_Law_law_1277.2.2.2.2.2.2.2.2.2.2.2.2.2.2.2.2.2.2.2.2.2.1
theorem d_Law_law_1305 : decode code 1305 = .ok (.iaload, 1) := F_Law_law_1277.2.2.2.2.2.2.2.2.2.2.2.2.2.2.2.2.2.2.2.2.2.2.1
theorem d_Law_law_1306 : decode code 1306 = .ok (.invokevirtual 124, 3) := F_Law_law_1277.2.2.2.2.2.2.2.2.2.2.2.2.2.2.2.2.2.2.2.2.2.2.2.1
theorem d_Law_law_1309 : decode code 1309 = .ok (.lcmp, 1) := F_Law_law_1277.2.2.2.2.2.2.2.2.2.2.2.2.2.2.2.2.2.2.2.2.2.2.2.2.1
theorem d_Law_law_1310 : decode code 1310 = .ok (.ifCond .eq (2061), 3) := F_Law_law_1277.2.2.2.2.2.2.2.2.2.2.2.2.2.2.2.2.2.2.2.2.2.2.2.2.2.1
theorem F_Law_law_1315 : Jvm.Free.DS.Facts code 1315 [(.aload_n 1, 1), (.aload_n 0, 1), (.iload 4, 2), (.iconst 1, 1), (.iadd, 1), (.iaload, 1), (.aload_n 0, 1), (.iload 4, 2), (.iconst 2, 1), (.iadd, 1), (.iaload, 1), (.invokevirtual 125, 3), (.aload_n 2, 1), (.aload_n 0, 1), (.iload 4, 2), (.iconst 1, 1), (.iadd, 1), (.iaload, 1), (.aload_n 0, 1), (.iload 4, 2), (.iconst 2, 1), (.iadd, 1), (.iaload, 1), (.invokevirtual 128, 3), (.lcmp, 1), (.ifCond .eq (2023), 3)] := Jvm.Free.DS.facts 1315 _ (by decide +kernel) (by decide +kernel)
theorem d_Law_law_1315 : decode code 1315 = .ok (.aload_n 1, 1) := F_Law_law_1315.1
theorem d_Law_law_1316 : decode code 1316 = .ok (.aload_n 0, 1) := F_Law_law_1315.2.1
theorem d_Law_law_1317 : decode code 1317 = .ok (.iload 4, 2) := F_Law_law_1315.2.2.1
theorem d_Law_law_1319 : decode code 1319 = .ok (.iconst 1, 1) := F_Law_law_1315.2.2.2.1
theorem d_Law_law_1320 : decode code 1320 = .ok (.iadd, 1) := F_Law_law_1315.2.2.2.2.1
theorem d_Law_law_1321 : decode code 1321 = .ok (.iaload, 1) := F_Law_law_1315.2.2.2.2.2.1
theorem d_Law_law_1322 : decode code 1322 = .ok (.aload_n 0, 1) := F_Law_law_1315.2.2.2.2.2.2.1
theorem d_Law_law_1323 : decode code 1323 = .ok (.iload 4, 2) := F_Law_law_1315.2.2.2.2.2.2.2.1
theorem d_Law_law_1325 : decode code 1325 = .ok (.iconst 2, 1) := F_Law_law_1315.2.2.2.2.2.2.2.2.1
theorem d_Law_law_1326 : decode code 1326 = .ok (.iadd, 1) := F_Law_law_1315.2.2.2.2.2.2.2.2.2.1
theorem d_Law_law_1327 : decode code 1327 = .ok (.iaload, 1) := F_Law_law_1315.2.2.2.2.2.2.2.2.2.2.1
theorem d_Law_law_1328 : decode code 1328 = .ok (.invokevirtual 125, 3) := F_Law_law_1315.2.2.2.2.2.2.2.2.2.2.2.1
theorem d_Law_law_1331 : decode code 1331 = .ok (.aload_n 2, 1) := F_Law_law_1315.2.2.2.2.2.2.2.2.2.2.2.2.1
theorem d_Law_law_1332 : decode code 1332 = .ok (.aload_n 0, 1) := F_Law_law_1315.2.2.2.2.2.2.2.2.2.2.2.2.2.1
theorem d_Law_law_1333 : decode code 1333 = .ok (.iload 4, 2) := F_Law_law_1315.2.2.2.2.2.2.2.2.2.2.2.2.2.2.1
theorem d_Law_law_1335 : decode code 1335 = .ok (.iconst 1, 1) := F_Law_law_1315.2.2.2.2.2.2.2.2.2.2.2.2.2.2.2.1
theorem d_Law_law_1336 : decode code 1336 = .ok (.iadd, 1) := F_Law_law_1315.2.2.2.2.2.2.2.2.2.2.2.2.2.2.2.2.1
theorem d_Law_law_1337 : decode code 1337 = .ok (.iaload, 1) := F_Law_law_1315.2.2.2.2.2.2.2.2.2.2.2.2.2.2.2.2.2.1
theorem d_Law_law_1338 : decode code 1338 = .ok (.aload_n 0, 1) := F_Law_law_1315.2.2.2.2.2.2.2.2.2.2.2.2.2.2.2.2.2.2.1
theorem d_Law_law_1339 : decode code 1339 = .ok (.iload 4, 2) := F_Law_law_1315.2.2.2.2.2.2.2.2.2.2.2.2.2.2.2.2.2.2.2.1
theorem d_Law_law_1341 : decode code 1341 = .ok (.iconst 2, 1) := F_Law_law_1315.2.2.2.2.2.2.2.2.2.2.2.2.2.2.2.2.2.2.2.2.1
theorem d_Law_law_1342 : decode code 1342 = .ok (.iadd, 1) := F_Law_law_1315.2.2.2.2.2.2.2.2.2.2.2.2.2.2.2.2.2.2.2.2.2.1
theorem d_Law_law_1343 : decode code 1343 = .ok (.iaload, 1) := F_Law_law_1315.2.2.2.2.2.2.2.2.2.2.2.2.2.2.2.2.2.2.2.2.2.2.1
theorem d_Law_law_1344 : decode code 1344 = .ok (.invokevirtual 128, 3) := F_Law_law_1315.2.2.2.2.2.2.2.2.2.2.2.2.2.2.2.2.2.2.2.2.2.2.2.1
theorem d_Law_law_1347 : decode code 1347 = .ok (.lcmp, 1) := F_Law_law_1315.2.2.2.2.2.2.2.2.2.2.2.2.2.2.2.2.2.2.2.2.2.2.2.2.1
theorem d_Law_law_1348 : decode code 1348 = .ok (.ifCond .eq (2023), 3) := F_Law_law_1315.2.2.2.2.2.2.2.2.2.2.2.2.2.2.2.2.2.2.2.2.2.2.2.2.2.1
theorem F_Law_law_1353 : Jvm.Free.DS.Facts code 1353 [(.aload_n 1, 1), (.aload_n 0, 1), (.iload 4, 2), (.iconst 1, 1), (.iadd, 1), (.iaload, 1), (.aload_n 0, 1), (.iload 4, 2), (.iconst 2, 1), (.iadd, 1), (.iaload, 1), (.aload_n 0, 1), (.iload 4, 2), (.iconst 3, 1), (.iadd, 1), (.iaload, 1), (.invokevirtual 129, 3), (.aload_n 2, 1), (.aload_n 0, 1), (.iload 4, 2), (.iconst 1, 1), (.iadd, 1), (.iaload, 1), (.aload_n 0, 1), (.iload 4, 2), (.iconst 2, 1), (.iadd, 1), (.iaload, 1), (.aload_n 0, 1), (.iload 4, 2), (.iconst 3, 1), (.iadd, 1)] := Jvm.Free.DS.facts 1353 _ (by decide +kernel) (by decide +kernel)
theorem d_Law_law_1353 : decode code 1353 = .ok (.aload_n 1, 1) := F_Law_law_1353.1
theorem d_Law_law_1354 : decode code 1354 = .ok (.aload_n 0, 1) := F_Law_law_1353.2.1
theorem d_Law_law_1355 : decode code 1355 = .ok (.iload 4, 2) := F_Law_law_1353.2.2.1
theorem d_Law_law_1357 : decode code 1357 = .ok (.iconst 1, 1) := F_Law_law_1353.2.2.2.1
theorem d_Law_law_1358 : decode code 1358 = .ok (.iadd, 1) := F_Law_law_1353.2.2.2.2.1
theorem d_Law_law_1359 : decode code 1359 = .ok (.iaload, 1) := F_Law_law_1353.2.2.2.2.2.1
theorem d_Law_law_1360 : decode code 1360 = .ok (.aload_n 0, 1) := F_Law_law_1353.2.2.2.2.2.2.1
theorem d_Law_law_1361 : decode code 1361 = .ok (.iload 4, 2) := F_Law_law_1353.2.2.2.2.2.2.2.1
theorem d_Law_law_1363 : decode code 1363 = .ok (.iconst 2, 1) := F_Law_law_1353.2.2.2.2.2.2.2.2.1
theorem d_Law_law_1364 : decode code 1364 = .ok (.iadd, 1) := F_Law_law_1353.2.2.2.2.2.2.2.2.2.1
theorem d_Law_law_1365 : decode code 1365 = .ok (.iaload, 1) := F_Law_law_1353.2.2.2.2.2.2.2.2.2.2.1
theorem d_Law_law_1366 : decode code 1366 = .ok (.aload_n 0, 1) := F_Law_law_1353.2.2.2.2.2.2.2.2.2.2.2.1
theorem d_Law_law_1367 : decode code 1367 = .ok (.iload 4, 2) := F_Law_law_1353.2.2.2.2.2.2.2.2.2.2.2.2.1
theorem d_Law_law_1369 : decode code 1369 = .ok (.iconst 3, 1) := F_Law_law_1353.2.2.2.2.2.2.2.2.2.2.2.2.2.1
theorem d_Law_law_1370 : decode code 1370 = .ok (.iadd, 1) := F_Law_law_1353.2.2.2.2.2.2.2.2.2.2.2.2.2.2.1
theorem d_Law_law_1371 : decode code 1371 = .ok (.iaload, 1) := F_Law_law_1353.2.2.2.2.2.2.2.2.2.2.2.2.2.2.2.1
theorem d_Law_law_1372 : decode code 1372 = .ok (.invokevirtual 129, 3) := F_Law_law_1353.2.2.2.2.2.2.2.2.2.2.2.2.2.2.2.2.1
theorem d_Law_law_1375 : decode code 1375 = .ok (.aload_n 2, 1) := F_Law_law_1353.2.2.2.2.2.2.2.2.2.2.2.2.2.2.2.2.2.1
theorem d_Law_law_1376 : decode code 1376 = .ok (.aload_n 0, 1) := F_Law_law_1353.2.2.2.2.2.2.2.2.2.2.2.2.2.2.2.2.2.2.1
theorem d_Law_law_1377 : decode code 1377 = .ok (.iload 4, 2) := F_Law_law_1353.2.2.2.2.2.2.2.2.2.2.2.2.2.2.2.2.2.2.2.1
theorem d_Law_law_1379 : decode code 1379 = .ok (.iconst 1, 1) := F_Law_law_1353.2.2.2.2.2.2.2.2.2.2.2.2.2.2.2.2.2.2.2.2.1
theorem d_Law_law_1380 : decode code 1380 = .ok (.iadd, 1) := F_Law_law_1353.2.2.2.2.2.2.2.2.2.2.2.2.2.2.2.2.2.2.2.2.2.1
theorem d_Law_law_1381 : decode code 1381 = .ok (.iaload, 1) := F_Law_law_1353.2.2.2.2.2.2.2.2.2.2.2.2.2.2.2.2.2.2.2.2.2.2.1
theorem d_Law_law_1382 : decode code 1382 = .ok (.aload_n 0, 1) := F_Law_law_1353.2.2.2.2.2.2.2.2.2.2.2.2.2.2.2.2.2.2.2.2.2.2.2.1
theorem d_Law_law_1383 : decode code 1383 = .ok (.iload 4, 2) := F_Law_law_1353.2.2.2.2.2.2.2.2.2.2.2.2.2.2.2.2.2.2.2.2.2.2.2.2.1
theorem d_Law_law_1385 : decode code 1385 = .ok (.iconst 2, 1) := F_Law_law_1353.2.2.2.2.2.2.2.2.2.2.2.2.2.2.2.2.2.2.2.2.2.2.2.2.2.1
theorem d_Law_law_1386 : decode code 1386 = .ok (.iadd, 1) := F_Law_law_1353.2.2.2.2.2.2.2.2.2.2.2.2.2.2.2.2.2.2.2.2.2.2.2.2.2.2.1
theorem d_Law_law_1387 : decode code 1387 = .ok (.iaload, 1) := F_Law_law_1353.2.2.2.2.2.2.2.2.2.2.2.2.2.2.2.2.2.2.2.2.2.2.2.2.2.2.2.1
theorem d_Law_law_1388 : decode code 1388 = .ok (.aload_n 0, 1) := F_Law_law_1353.2.2.2.2.2.2.2.2.2.2.2.2.2.2.2.2.2.2.2.2.2.2.2.2.2.2.2.2.1
theorem d_Law_law_1389 : decode code 1389 = .ok (.iload 4, 2) := F_Law_law_1353.2.2.2.2.2.2.2.2.2.2.2.2.2.2.2.2.2.2.2.2.2.2.2.2.2.2.2.2.2.1
theorem d_Law_law_1391 : decode code 1391 = .ok (.iconst 3, 1) := F_Law_law_1353.2.2.2.2.2.2.2.2.2.2.2.2.2.2.2.2.2.2.2.2.2.2.2.2.2.2.2.2.2.2.1
theorem d_Law_law_1392 : decode code 1392 = .ok (.iadd, 1) := F_Law_law_1353.2.2.2.2.2.2.2.2.2.2.2.2.2.2.2.2.2.2.2.2.2.2.2.2.2.2.2.2.2.2.2.1
theorem F_Law_law_1393 : Jvm.Free.DS.Facts code 1393 [(.iaload, 1), (.invokevirtual 132, 3), (.if_icmp .eq (1974), 3)] := Jvm.Free.DS.facts 1393 _ (by decide +kernel) (by decide +kernel)
theorem d_Law_law_1393 : decode code 1393 = .ok (.iaload, 1) := F_Law_law_1393.1
theorem d_Law_law_1394 : decode code 1394 = .ok (.invokevirtual 132, 3) := F_Law_law_1393.2.1
theorem d_Law_law_1397 : decode code 1397 = .ok (.if_icmp .eq (1974), 3) := F_Law_law_1393.2.2.1
theorem F_Law_law_1402 : Jvm.Free.DS.Facts code 1402 [(.aload_n 1, 1), (.aload_n 0, 1), (.iload 4, 2), (.iconst 1, 1), (.iadd, 1), (.iaload, 1), (.aload_n 0, 1), (.iload 4, 2), (.iconst 2, 1), (.iadd, 1), (.iaload, 1), (.invokevirtual 133, 3), (.aload_n 2, 1), (.aload_n 0, 1), (.iload 4, 2), (.iconst 1, 1), (.iadd, 1), (.iaload, 1), (.aload_n 0, 1), (.iload 4, 2), (.iconst 2, 1), (.iadd, 1), (.iaload, 1), (.invokevirtual 136, 3), (.if_icmp .eq (1937), 3)] := Jvm.Free.DS.facts 1402 _ (by decide +kernel) (by decide +kernel)
theorem d_Law_law_1402 : decode code 1402 = .ok (.aload_n 1, 1) := F_Law_law_1402.1
theorem d_Law_law_1403 : decode code 1403 = .ok (.aload_n 0, 1) := F_Law_law_1402.2.1
theorem d_Law_law_1404 : decode code 1404 = .ok (.iload 4, 2) := F_Law_law_1402.2.2.1
theorem d_Law_law_1406 : decode code 1406 = .ok (.iconst 1, 1) := F_Law_law_1402.2.2.2.1
theorem d_Law_law_1407 : decode code 1407 = .ok (.iadd, 1) := F_Law_law_1402.2.2.2.2.1
theorem d_Law_law_1408 : decode code 1408 = .ok (.iaload, 1) := F_Law_law_1402.2.2.2.2.2.1
theorem d_Law_law_1409 : decode code 1409 = .ok (.aload_n 0, 1) := F_Law_law_1402.2.2.2.2.2.2.1
theorem d_Law_law_1410 : decode code 1410 = .ok (.iload 4, 2) := F_Law_law_1402.2.2.2.2.2.2.2.1
theorem d_Law_law_1412 : decode code 1412 = .ok (.iconst 2, 1) := F_Law_law_1402.2.2.2.2.2.2.2.2.1
theorem d_Law_law_1413 : decode code 1413 = .ok (.iadd, 1) := F_Law_law_1402.2.2.2.2.2.2.2.2.2.1
theorem d_Law_law_1414 : decode code 1414 = .ok (.iaload, 1) := F_Law_law_1402.2.2.2.2.2.2.2.2.2.2.1
theorem d_Law_law_1415 : decode code 1415 = .ok (.invokevirtual 133, 3) := F_Law_law_1402.2.2.2.2.2.2.2.2.2.2.2.1
theorem d_Law_law_1418 : decode code 1418 = .ok (.aload_n 2, 1) := F_Law_law_1402.2.2.2.2.2.2.2.2.2.2.2.2.1
theorem d_Law_law_1419 : decode code 1419 = .ok (.aload_n 0, 1) := F_Law_law_1402.2.2.2.2.2.2.2.2.2.2.2.2.2.1
theorem d_Law_law_1420 : decode code 1420 = .ok (.iload 4, 2) := F_Law_law_1402.2.2.2.2.2.2.2.2.2.2.2.2.2.2.1
theorem d_Law_law_1422 : decode code 1422 = .ok (.iconst 1, 1) := F_Law_law_1402.2.2.2.2.2.2.2.2.2.2.2.2.2.2.2.1
theorem d_Law_law_1423 : decode code 1423 = .ok (.iadd, 1) := F_Law_law_1402.2.2.2.2.2.2.2.2.2.2.2.2.2.2.2.2.1
theorem d_Law_law_1424 : decode code 1424 = .ok (.iaload, 1) := F_Law_law_1402.2.2.2.2.2.2.2.2.2.2.2.2.2.2.2.2.2.1
theorem d_Law_law_1425 : decode code 1425 = .ok (.aload_n 0, 1) := F_Law_law_1402.2.2.2.2.2.2.2.2.2.2.2.2.2.2.2.2.2.2.1
theorem d_Law_law_1426 : decode code 1426 = .ok (.iload 4, 2) := F_Law_law_1402.2.2.2.2.2.2.2.2.2.2.2.2.2.2.2.2.2.2.2.1
theorem d_Law_law_1428 : decode code 1428 = .ok (.iconst 2, 1) := F_Law_law_1402.2.2.2.2.2.2.2.2.2.2.2.2.2.2.2.2.2.2.2.2.1
theorem d_Law_law_1429 : decode code 1429 = .ok (.iadd, 1) := F_Law_law_1402.2.2.2.2.2.2.2.2.2.2.2.2.2.2.2.2.2.2.2.2.2.1
theorem d_Law_law_1430 : decode code 1430 = .ok (.iaload, 1) := F_Law_law_1402.2.2.2.2.2.2.2.2.2.2.2.2.2.2.2.2.2.2.2.2.2.2.1
theorem d_Law_law_1431 : decode code 1431 = .ok (.invokevirtual 136, 3) := F_Law_law_1402.2.2.2.2.2.2.2.2.2.2.2.2.2.2.2.2.2.2.2.2.2.2.2.1
theorem d_Law_law_1434 : decode code 1434 = .ok (.if_icmp .eq (1937), 3) := F_Law_law_1402.2.2.2.2.2.2.2.2.2.2.2.2.2.2.2.2.2.2.2.2.2.2.2.2.1
theorem F_Law_law_1439 : Jvm.Free.DS.Facts code 1439 [(.aload_n 1, 1), (.aload_n 0, 1), (.iload 4, 2), (.iconst 1, 1), (.iadd, 1), (.iaload, 1), (.invokevirtual 137, 3), (.aload_n 2, 1), (.aload_n 0, 1), (.iload 4, 2), (.iconst 1, 1), (.iadd, 1), (.iaload, 1), (.invokevirtual 140, 3), (.if_icmp .eq (1912), 3)] := Jvm.Free.DS.facts 1439 _ (by decide +kernel) (by decide +kernel)
theorem d_Law_law_1439 : decode code 1439 = .ok (.aload_n 1, 1) := F_Law_law_1439.1
theorem d_Law_law_1440 : decode code 1440 = .ok (.aload_n 0, 1) := F_Law_law_1439.2.1
theorem d_Law_law_1441 : decode code 1441 = .ok (.iload 4, 2) := F_Law_law_1439.2.2.1
theorem d_Law_law_1443 : decode code 1443 = .ok (.iconst 1, 1) := F_Law_law_1439.2.2.2.1
theorem d_Law_law_1444 : decode code 1444 = .ok (.iadd, 1) := F_Law_law_1439.2.2.2.2.1
theorem d_Law_law_1445 : decode code 1445 = .ok (.iaload, 1) := F_Law_law_1439.2.2.2.2.2.1
theorem d_Law_law_1446 : decode code 1446 = .ok (.invokevirtual 137, 3) := F_Law_law_1439.2.2.2.2.2.2.1
theorem d_Law_law_1449 : decode code 1449 = .ok (.aload_n 2, 1) := F_Law_law_1439.2.2.2.2.2.2.2.1
theorem d_Law_law_1450 : decode code 1450 = .ok (.aload_n 0, 1) := F_Law_law_1439.2.2.2.2.2.2.2.2.1
theorem d_Law_law_1451 : decode code 1451 = .ok (.iload 4, 2) := F_Law_law_1439.2.2.2.2.2.2.2.2.2.1
theorem d_Law_law_1453 : decode code 1453 = .ok (.iconst 1, 1) := F_Law_law_1439.2.2.2.2.2.2.2.2.2.2.1
theorem d_Law_law_1454 : decode code 1454 = .ok (.iadd, 1) := F_Law_law_1439.2.2.2.2.2.2.2.2.2.2.2.1
theorem d_Law_law_1455 : decode code 1455 = .ok (.iaload, 1) := F_Law_law_1439.2.2.2.2.2.2.2.2.2.2.2.2.1
theorem d_Law_law_1456 : decode code 1456 = .ok (.invokevirtual 140, 3) := F_Law_law_1439.2.2.2.2.2.2.2.2.2.2.2.2.2.1
theorem d_Law_law_1459 : decode code 1459 = .ok (.if_icmp .eq (1912), 3) := F_Law_law_1439.2.2.2.2.2.2.2.2.2.2.2.2.2.2.1
theorem F_Law_law_1464 : Jvm.Free.DS.Facts code 1464 [(.aload_n 1, 1), (.aload_n 0, 1), (.iload 4, 2), (.iconst 1, 1), (.iadd, 1), (.iaload, 1), (.invokevirtual 141, 3), (.aload_n 2, 1), (.aload_n 0, 1), (.iload 4, 2), (.iconst 1, 1), (.iadd, 1), (.iaload, 1), (.invokevirtual 144, 3), (.if_icmp .eq (1887), 3)] := Jvm.Free.DS.facts 1464 _ (by decide +kernel) (by decide +kernel)
theorem d_Law_law_1464 : decode code 1464 = .ok (.aload_n 1, 1) := F_Law_law_1464.1
theorem d_Law_law_1465 : decode code 1465 = .ok (.aload_n 0, 1) := F_Law_law_1464.2.1
theorem d_Law_law_1466 : decode code 1466 = .ok (.iload 4, 2) := F_Law_law_1464.2.2.1
theorem d_Law_law_1468 : decode code 1468 = .ok (.iconst 1, 1) := F_Law_law_1464.2.2.2.1
theorem d_Law_law_1469 : decode code 1469 = .ok (.iadd, 1) := F_Law_law_1464.2.2.2.2.1
theorem d_Law_law_1470 : decode code 1470 = .ok (.iaload, 1) := F_Law_law_1464.2.2.2.2.2.1
theorem d_Law_law_1471 : decode code 1471 = .ok (.invokevirtual 141, 3) := F_Law_law_1464.2.2.2.2.2.2.1
theorem d_Law_law_1474 : decode code 1474 = .ok (.aload_n 2, 1) := F_Law_law_1464.2.2.2.2.2.2.2.1
theorem d_Law_law_1475 : decode code 1475 = .ok (.aload_n 0, 1) := F_Law_law_1464.2.2.2.2.2.2.2.2.1
theorem d_Law_law_1476 : decode code 1476 = .ok (.iload 4, 2) := F_Law_law_1464.2.2.2.2.2.2.2.2.2.1
theorem d_Law_law_1478 : decode code 1478 = .ok (.iconst 1, 1) := F_Law_law_1464.2.2.2.2.2.2.2.2.2.2.1
theorem d_Law_law_1479 : decode code 1479 = .ok (.iadd, 1) := F_Law_law_1464.2.2.2.2.2.2.2.2.2.2.2.1
theorem d_Law_law_1480 : decode code 1480 = .ok (.iaload, 1) := F_Law_law_1464.2.2.2.2.2.2.2.2.2.2.2.2.1
theorem d_Law_law_1481 : decode code 1481 = .ok (.invokevirtual 144, 3) := F_Law_law_1464.2.2.2.2.2.2.2.2.2.2.2.2.2.1
theorem d_Law_law_1484 : decode code 1484 = .ok (.if_icmp .eq (1887), 3) := F_Law_law_1464.2.2.2.2.2.2.2.2.2.2.2.2.2.2.1
theorem F_Law_law_1489 : Jvm.Free.DS.Facts code 1489 [(.aload_n 1, 1), (.aload_n 0, 1), (.iload 4, 2), (.iconst 1, 1), (.iadd, 1), (.iaload, 1), (.invokevirtual 145, 3), (.aload_n 2, 1), (.aload_n 0, 1), (.iload 4, 2), (.iconst 1, 1), (.iadd, 1), (.iaload, 1), (.invokevirtual 148, 3), (.if_icmp .eq (1862), 3)] := Jvm.Free.DS.facts 1489 _ (by decide +kernel) (by decide +kernel)
theorem d_Law_law_1489 : decode code 1489 = .ok (.aload_n 1, 1) := F_Law_law_1489.1
theorem d_Law_law_1490 : decode code 1490 = .ok (.aload_n 0, 1) := F_Law_law_1489.2.1
theorem d_Law_law_1491 : decode code 1491 = .ok (.iload 4, 2) := F_Law_law_1489.2.2.1
theorem d_Law_law_1493 : decode code 1493 = .ok (.iconst 1, 1) := F_Law_law_1489.2.2.2.1
theorem d_Law_law_1494 : decode code 1494 = .ok (.iadd, 1) := F_Law_law_1489.2.2.2.2.1
theorem d_Law_law_1495 : decode code 1495 = .ok (.iaload, 1) := F_Law_law_1489.2.2.2.2.2.1
theorem d_Law_law_1496 : decode code 1496 = .ok (.invokevirtual 145, 3) := F_Law_law_1489.2.2.2.2.2.2.1
theorem d_Law_law_1499 : decode code 1499 = .ok (.aload_n 2, 1) := F_Law_law_1489.2.2.2.2.2.2.2.1
theorem d_Law_law_1500 : decode code 1500 = .ok (.aload_n 0, 1) := F_Law_law_1489.2.2.2.2.2.2.2.2.1
theorem d_Law_law_1501 : decode code 1501 = .ok (.iload 4, 2) := F_Law_law_1489.2.2.2.2.2.2.2.2.2.1
theorem d_Law_law_1503 : decode code 1503 = .ok (.iconst 1, 1) := F_Law_law_1489.2.2.2.2.2.2.2.2.2.2.1
theorem d_Law_law_1504 : decode code 1504 = .ok (.iadd, 1) := F_Law_law_1489.2.2.2.2.2.2.2.2.2.2.2.1
theorem d_Law_law_1505 : decode code 1505 = .ok (.iaload, 1) := F_Law_law_1489.2.2.2.2.2.2.2.2.2.2.2.2.1
theorem d_Law_law_1506 : decode code 1506 = .ok (.invokevirtual 148, 3) := F_Law_law_1489.2.2.2.2.2.2.2.2.2.2.2.2.2.1
theorem d_Law_law_1509 : decode code 1509 = .ok (.if_icmp .eq (1862), 3) := F_Law_law_1489.2.2.2.2.2.2.2.2.2.2.2.2.2.2.1
theorem F_Law_law_1514 : Jvm.Free.DS.Facts code 1514 [(.aload_n 1, 1), (.aload_n 0, 1), (.iload 4, 2), (.iconst 1, 1), (.iadd, 1), (.iaload, 1), (.aload_n 0, 1), (.iload 4, 2), (.iconst 2, 1), (.iadd, 1), (.iaload, 1), (.invokevirtual 149, 3), (.aload_n 2, 1), (.aload_n 0, 1), (.iload 4, 2), (.iconst 1, 1), (.iadd, 1), (.iaload, 1), (.aload_n 0, 1), (.iload 4, 2), (.iconst 2, 1), (.iadd, 1), (.iaload, 1), (.invokevirtual 152, 3), (.if_icmp .eq (1825), 3)] := Jvm.Free.DS.facts 1514 _ (by decide +kernel) (by decide +kernel)
theorem d_Law_law_1514 : decode code 1514 = .ok (.aload_n 1, 1) := F_Law_law_1514.1
theorem d_Law_law_1515 : decode code 1515 = .ok (.aload_n 0, 1) := F_Law_law_1514.2.1
theorem d_Law_law_1516 : decode code 1516 = .ok (.iload 4, 2) := F_Law_law_1514.2.2.1
theorem d_Law_law_1518 : decode code 1518 = .ok (.iconst 1, 1) := F_Law_law_1514.2.2.2.1
theorem d_Law_law_1519 : decode code 1519 = .ok (.iadd, 1) := F_Law_law_1514.2.2.2.2.1
theorem d_Law_law_1520 : decode code 1520 = .ok (.iaload, 1) := F_Law_law_1514.2.2.2.2.2.1
theorem d_Law_law_1521 : decode code 1521 = .ok (.aload_n 0, 1) := F_Law_law_1514.2.2.2.2.2.2.1
theorem d_Law_law_1522 : decode code 1522 = .ok (.iload 4, 2) := F_Law_law_1514.2.2.2.2.2.2.2.1
theorem d_Law_law_1524 : decode code 1524 = .ok (.iconst 2, 1) := F_Law_law_1514.2.2.2.2.2.2.2.2.1
theorem d_Law_law_1525 : decode code 1525 = .ok (.iadd, 1) := F_Law_law_1514.2.2.2.2.2.2.2.2.2.1
theorem d_Law_law_1526 : decode code 1526 = .ok (.iaload, 1) := F_Law_law_1514.2.2.2.2.2.2.2.2.2.2.1
theorem d_Law_law_1527 : decode code 1527 = .ok (.invokevirtual 149, 3) := F_Law_law_1514.2.2.2.2.2.2.2.2.2.2.2.1
theorem d_Law_law_1530 : decode code 1530 = .ok (.aload_n 2, 1) := F_Law_law_1514.2.2.2.2.2.2.2.2.2.2.2.2.1
theorem d_Law_law_1531 : decode code 1531 = .ok (.aload_n 0, 1) := F_Law_law_1514.2.2.2.2.2.2.2.2.2.2.2.2.2.1
theorem d_Law_law_1532 : decode code 1532 = .ok (.iload 4, 2) := F_Law_law_1514.2.2.2.2.2.2.2.2.2.2.2.2.2.2.1
theorem d_Law_law_1534 : decode code 1534 = .ok (.iconst 1, 1) := F_Law_law_1514.2.2.2.2.2.2.2.2.2.2.2.2.2.2.2.1
theorem d_Law_law_1535 : decode code 1535 = .ok (.iadd, 1) := F_Law_law_1514.2.2.2.2.2.2.2.2.2.2.2.2.2.2.2.2.1
theorem d_Law_law_1536 : decode code 1536 = .ok (.iaload, 1) := F_Law_law_1514.2.2.2.2.2.2.2.2.2.2.2.2.2.2.2.2.2.1
theorem d_Law_law_1537 : decode code 1537 = .ok (.aload_n 0, 1) := F_Law_law_1514.2.2.2.2.2.2.2.2.2.2.2.2.2.2.2.2.2.2.1
theorem d_Law_law_1538 : decode code 1538 = .ok (.iload 4, 2) := F_Law_law_1514.2.2.2.2.2.2.2.2.2.2.2.2.2.2.2.2.2.2.2.1
theorem d_Law_law_1540 : decode code 1540 = .ok (.iconst 2, 1) := F_Law_law_1514.2.2.2.2.2.2.2.2.2.2.2.2.2.2.2.2.2.2.2.2.1
theorem d_Law_law_1541 : decode code 1541 = .ok (.iadd, 1) := F_Law_law_1514.2.2.2.2.2.2.2.2.2.2.2.2.2.2.2.2.2.2.2.2.2.1
theorem d_Law_law_1542 : decode code 1542 = .ok (.iaload, 1) := F_Law_law_1514.2.2.2.2.2.2.2.2.2.2.2.2.2.2.2.2.2.2.2.2.2.2.1
theorem d_Law_law_1543 : decode code 1543 = .ok (.invokevirtual 152, 3) := F_Law_law_1514.2.2.2.2.2.2.2.2.2.2.2.2.2.2.2.2.2.2.2.2.2.2.2.1
theorem d_Law_law_1546 : decode code 1546 = .ok (.if_icmp .eq (1825), 3) := F_Law_law_1514.2.2.2.2.2.2.2.2.2.2.2.2.2.2.2.2.2.2.2.2.2.2.2.2.1
theorem F_Law_law_1551 : Jvm.Free.DS.Facts code 1551 [(.aload_n 1, 1), (.aload_n 0, 1), (.iload 4, 2), (.iconst 1, 1), (.iadd, 1), (.iaload, 1), (.aload_n 0, 1), (.iload 4, 2), (.iconst 2, 1), (.iadd, 1), (.iaload, 1), (.invokevirtual 153, 3), (.aload_n 2, 1), (.aload_n 0, 1), (.iload 4, 2), (.iconst 1, 1), (.iadd, 1), (.iaload, 1), (.aload_n 0, 1), (.iload 4, 2), (.iconst 2, 1), (.iadd, 1), (.iaload, 1), (.invokevirtual 156, 3), (.if_icmp .eq (1788), 3)] := Jvm.Free.DS.facts 1551 _ (by decide +kernel) (by decide +kernel)
theorem d_Law_law_1551 : decode code 1551 = .ok (.aload_n 1, 1) := F_Law_law_1551.1
theorem d_Law_law_1552 : decode code 1552 = .ok (.aload_n 0, 1) := F_Law_law_1551.2.1
theorem d_Law_law_1553 : decode code 1553 = .ok (.iload 4, 2) := F_Law_law_1551.2.2.1
theorem d_Law_law_1555 : decode code 1555 = .ok (.iconst 1, 1) := F_Law_law_1551.2.2.2.1
theorem d_Law_law_1556 : decode code 1556 = .ok (.iadd, 1) := F_Law_law_1551.2.2.2.2.1
theorem d_Law_law_1557 : decode code 1557 = .ok (.iaload, 1) := F_Law_law_1551.2.2.2.2.2.1
theorem d_Law_law_1558 : decode code 1558 = .ok (.aload_n 0, 1) := F_Law_law_1551.2.2.2.2.2.2.1
theorem d_Law_law_1559 : decode code 1559 = .ok (.iload 4, 2) := F_Law_law_1551.2.2.2.2.2.2.2.1
theorem d_Law_law_1561 : decode code 1561 = .ok (.iconst 2, 1) := F_Law_law_1551.2.2.2.2.2.2.2.2.1
theorem d_Law_law_1562 : decode code 1562 = .ok (.iadd, 1) := F_Law_law_1551.2.2.2.2.2.2.2.2.2.1
theorem d_Law_law_1563 : decode code 1563 = .ok (.iaload, 1) := F_Law_law_1551.2.2.2.2.2.2.2.2.2.2.1
theorem d_Law_law_1564 : decode code 1564 = .ok (.invokevirtual 153, 3) := F_Law_law_1551.2.2.2.2.2.2.2.2.2.2.2.1
theorem d_Law_law_1567 : decode code 1567 = .ok (.aload_n 2, 1) := F_Law_law_1551.2.2.2.2.2.2.2.2.2.2.2.2.1
theorem d_Law_law_1568 : decode code 1568 = .ok (.aload_n 0, 1) := F_Law_law_1551.2.2.2.2.2.2.2.2.2.2.2.2.2.1
theorem d_Law_law_1569 : decode code 1569 = .ok (.iload 4, 2) := F_Law_law_1551.2.2.2.2.2.2.2.2.2.2.2.2.2.2.1
theorem d_Law_law_1571 : decode code 1571 = .ok (.iconst 1, 1) := F_Law_law_1551.2.2.2.2.2.2.2.2.2.2.2.2.2.2.2.1
theorem d_Law_law_1572 : decode code 1572 = .ok (.iadd, 1) := F_Law_law_1551.2.2.2.2.2.2.2.2.2.2.2.2.2.2.2.2.1
theorem d_Law_law_1573 : decode code 1573 = .ok (.iaload, 1) := F_Law_law_1551.2.2.2.2.2.2.2.2.2.2.2.2.2.2.2.2.2.1
theorem d_Law_law_1574 : decode code 1574 = .ok (.aload_n 0, 1) := F_Law_law_1551.2.2.2.2.2.2.2.2.2.2.2.2.2.2.2.2.2.2.1
theorem d_Law_law_1575 : decode code 1575 = .ok (.iload 4, 2) := F_Law_law_1551.2.2.2.2.2.2.2.2.2.2.2.2.2.2.2.2.2.2.2.1
theorem d_Law_law_1577 : decode code 1577 = .ok (.iconst 2, 1) := F_Law_law_1551.2.2.2.2.2.2.2.2.2.2.2.2.2.2.2.2.2.2.2.2.1
theorem d_Law_law_1578 : decode code 1578 = .ok (.iadd, 1) := F_Law_law_1551.2.2.2.2.2.2.2.2.2.2.2.2.2.2.2.2.2.2.2.2.2.1
theorem d_Law_law_1579 : decode code 1579 = .ok (.iaload, 1) := F_Law_law_1551.2.2.2.2.2.2.2.2.2.2.2.2.2.2.2.2.2.2.2.2.2.2.1
theorem d_Law_law_1580 : decode code 1580 = .ok (.invokevirtual 156, 3) := F_Law_law_1551.2.2.2.2.2.2.2.2.2.2.2.2.2.2.2.2.2.2.2.2.2.2.2.1
theorem d_Law_law_1583 : decode code 1583 = .ok (.if_icmp .eq (1788), 3) := F_Law_law_1551.2.2.2.2.2.2.2.2.2.2.2.2.2.2.2.2.2.2.2.2.2.2.2.2.1
theorem F_Law_law_1588 : Jvm.Free.DS.Facts code 1588 [(.aload_n 1, 1), (.aload_n 0, 1), (.iload 4, 2), (.iconst 1, 1), (.iadd, 1), (.iaload, 1), (.aload_n 0, 1), (.iload 4, 2), (.iconst 2, 1), (.iadd, 1), (.iaload, 1), (.invokevirtual 157, 3), (.aload_n 2, 1), (.aload_n 0, 1), (.iload 4, 2), (.iconst 1, 1), (.iadd, 1), (.iaload, 1), (.aload_n 0, 1), (.iload 4, 2), (.iconst 2, 1), (.iadd, 1), (.iaload, 1), (.invokevirtual 160, 3), (.if_icmp .eq (1751), 3)] := Jvm.Free.DS.facts 1588 _ (by decide +kernel) (by decide +kernel)
theorem d_Law_law_1588 : decode code 1588 = .ok (.aload_n 1, 1) := F_Law_law_1588.1
theorem d_Law_law_1589 : decode code 1589 = .ok (.aload_n 0, 1) := F_Law_law_1588.2.1
theorem d_Law_law_1590 : decode code 1590 = .ok (.iload 4, 2) := F_Law_law_1588.2.2.1
theorem d_Law_law_1592 : decode code 1592 = .ok (.iconst 1, 1) := F_Law_law_1588.2.2.2.1
theorem d_Law_law_1593 : decode code 1593 = .ok (.iadd, 1) := F_Law_law_1588.2.2.2.2.1
theorem d_Law_law_1594 : decode code 1594 = .ok (.iaload, 1) := F_Law_law_1588.2.2.2.2.2.1
theorem d_Law_law_1595 : decode code 1595 = .ok (.aload_n 0, 1) := F_Law_law_1588.2.2.2.2.2.2.1
theorem d_Law_law_1596 : decode code 1596 = .ok (.iload 4, 2) := F_Law_law_1588.2.2.2.2.2.2.2.1
theorem d_Law_law_1598 : decode code 1598 = .ok (.iconst 2, 1) := F_Law_law_1588.2.2.2.2.2.2.2.2.1
theorem d_Law_law_1599 : decode code 1599 = .ok (.iadd, 1) := F_Law_law_1588.2.2.2.2.2.2.2.2.2.1
theorem d_Law_law_1600 : decode code 1600 = .ok (.iaload, 1) := F_Law_law_1588.2.2.2.2.2.2.2.2.2.2.1
theorem d_Law_law_1601 : decode code 1601 = .ok (.invokevirtual 157, 3) := F_Law_law_1588.2.2.2.2.2.2.2.2.2.2.2.1
theorem d_Law_law_1604 : decode code 1604 = .ok (.aload_n 2, 1) := F_Law_law_1588.2.2.2.2.2.2.2.2.2.2.2.2.1
theorem d_Law_law_1605 : decode code 1605 = .ok (.aload_n 0, 1) := F_Law_law_1588.2.2.2.2.2.2.2.2.2.2.2.2.2.1
theorem d_Law_law_1606 : decode code 1606 = .ok (.iload 4, 2) := F_Law_law_1588.2.2.2.2.2.2.2.2.2.2.2.2.2.2.1
theorem d_Law_law_1608 : decode code 1608 = .ok (.iconst 1, 1) := F_Law_law_1588.2.2.2.2.2.2.2.2.2.2.2.2.2.2.2.1
theorem d_Law_law_1609 : decode code 1609 = .ok (.iadd, 1) := F_Law_law_1588.2.2.2.2.2.2.2.2.2.2.2.2.2.2.2.2.1
theorem d_Law_law_1610 : decode code 1610 = .ok (.iaload, 1) := F_Law_law_1588.2.2.2.2.2.2.2.2.2.2.2.2.2.2.2.2.2.1
theorem d_Law_law_1611 : decode code 1611 = .ok (.aload_n 0, 1) := F_Law_law_1588.2.2.2.2.2.2.2.2.2.2.2.2.2.2.2.2.2.2.1
theorem d_Law_law_1612 : decode code 1612 = .ok (.iload 4, 2) := F_Law_law_1588.2.2.2.2.2.2.2.2.2.2.2.2.2.2.2.2.2.2.2.1
theorem d_Law_law_1614 : decode code 1614 = .ok (.iconst 2, 1) := F_Law_law_1588.2.2.2.2.2.2.2.2.2.2.2.2.2.2.2.2.2.2.2.2.1
theorem d_Law_law_1615 : decode code 1615 = .ok (.iadd, 1) := F_Law_law_1588.2.2.2.2.2.2.2.2.2.2.2.2.2.2.2.2.2.2.2.2.2.1
theorem d_Law_law_1616 : decode code 1616 = .ok (.iaload, 1) := F_Law_law_1588.2.2.2.2.2.2.2.2.2.2.2.2.2.2.2.2.2.2.2.2.2.2.1
theorem d_Law_law_1617 : decode code 1617 = .ok (.invokevirtual 160, 3) := F_Law_law_1588.2.2.2.2.2.2.2.2.2.2.2.2.2.2.2.2.2.2.2.2.2.2.2.1
theorem d_Law_law_1620 : decode code 1620 = .ok (.if_icmp .eq (1751), 3) := F_Law_law_1588.2.2.2.2.2.2.2.2.2.2.2.2.2.2.2.2.2.2.2.2.2.2.2.2.1
theorem F_Law_law_1625 : Jvm.Free.DS.Facts code 1625 [(.aload_n 1, 1), (.aload_n 0, 1), (.iload 4, 2), (.iconst 1, 1), (.iadd, 1), (.iaload, 1), (.aload_n 0, 1), (.iload 4, 2), (.iconst 2, 1), (.iadd, 1), (.iaload, 1), (.invokevirtual 161, 3), (.aload_n 2, 1), (.aload_n 0, 1), (.iload 4, 2), (.iconst 1, 1), (.iadd, 1), (.iaload, 1), (.aload_n 0, 1), (.iload 4, 2), (.iconst 2, 1), (.iadd, 1), (.iaload, 1), (.invokevirtual 164, 3), (.if_icmp .eq (1714), 3)] := Jvm.Free.DS.facts 1625 _ (by decide +kernel) (by decide +kernel)
theorem d_Law_law_1625 : decode code 1625 = .ok (.aload_n 1, 1) := F_Law_law_1625.1
theorem d_Law_law_1626 : decode code 1626 = .ok (.aload_n 0, 1) := F_Law_law_1625.2.1
theorem d_Law_law_1627 : decode code 1627 = .ok (.iload 4, 2) := F_Law_law_1625.2.2.1
theorem d_Law_law_1629 : decode code 1629 = .ok (.iconst 1, 1) := F_Law_law_1625.2.2.2.1
theorem d_Law_law_1630 : decode code 1630 = .ok (.iadd, 1) := F_Law_law_1625.2.2.2.2.1
theorem d_Law_law_1631 : decode code 1631 = .ok (.iaload, 1) := F_Law_law_1625.2.2.2.2.2.1
theorem d_Law_law_1632 : decode code 1632 = .ok (.aload_n 0, 1) := F_Law_law_1625.2.2.2.2.2.2.1
theorem d_Law_law_1633 : decode code 1633 = .ok (.iload 4, 2) := F_Law_law_1625.2.2.2.2.2.2.2.1
theorem d_Law_law_1635 : decode code 1635 = .ok (.iconst 2, 1) := F_Law_law_1625.2.2.2.2.2.2.2.2.1
theorem d_Law_law_1636 : decode code 1636 = .ok (.iadd, 1) := F_Law_law_1625.2.2.2.2.2.2.2.2.2.1
theorem d_Law_law_1637 : decode code 1637 = .ok (.iaload, 1) := F_Law_law_1625.2.2.2.2.2.2.2.2.2.2.1
theorem d_Law_law_1638 : decode code 1638 = .ok (.invokevirtual 161, 3) := F_Law_law_1625.2.2.2.2.2.2.2.2.2.2.2.1
theorem d_Law_law_1641 : decode code 1641 = .ok (.aload_n 2, 1) := F_Law_law_1625.2.2.2.2.2.2.2.2.2.2.2.2.1
theorem d_Law_law_1642 : decode code 1642 = .ok (.aload_n 0, 1) := F_Law_law_1625.2.2.2.2.2.2.2.2.2.2.2.2.2.1
theorem d_Law_law_1643 : decode code 1643 = .ok (.iload 4, 2) := F_Law_law_1625.2.2.2.2.2.2.2.2.2.2.2.2.2.2.1
theorem d_Law_law_1645 : decode code 1645 = .ok (.iconst 1, 1) := F_Law_law_1625.2.2.2.2.2.2.2.2.2.2.2.2.2.2.2.1
theorem d_Law_law_1646 : decode code 1646 = .ok (.iadd, 1) := F_Law_law_1625.2.2.2.2.2.2.2.2.2.2.2.2.2.2.2.2.1
theorem d_Law_law_1647 : decode code 1647 = .ok (.iaload, 1) := F_Law_law_1625.2.2.2.2.2.2.2.2.2.2.2.2.2.2.2.2.2.1
theorem d_Law_law_1648 : decode code 1648 = .ok (.aload_n 0, 1) := F_Law_law_1625.2.2.2.2.2.2.2.2.2.2.2.2.2.2.2.2.2.2.1
theorem d_Law_law_1649 : decode code 1649 = .ok (.iload 4, 2) := F_Law_law_1625.2.2.2.2.2.2.2.2.2.2.2.2.2.2.2.2.2.2.2.1
theorem d_Law_law_1651 : decode code 1651 = .ok (.iconst 2, 1) := F_Law_law_1625.2.2.2.2.2.2.2.2.2.2.2.2.2.2.2.2.2.2.2.2.1
theorem d_Law_law_1652 : decode code 1652 = .ok (.iadd, 1) := F_Law_law_1625.2.2.2.2.2.2.2.2.2.2.2.2.2.2.2.2.2.2.2.2.2.1
theorem d_Law_law_1653 : decode code 1653 = .ok (.iaload, 1) := F_Law_law_1625.2.2.2.2.2.2.2.2.2.2.2.2.2.2.2.2.2.2.2.2.2.2.1
theorem d_Law_law_1654 : decode code 1654 = .ok (.invokevirtual 164, 3) := F_Law_law_1625.2.2.2.2.2.2.2.2.2.2.2.2.2.2.2.2.2.2.2.2.2.2.2.1
theorem d_Law_law_1657 : decode code 1657 = .ok (.if_icmp .eq (1714), 3) := F_Law_law_1625.2.2.2.2.2.2.2.2.2.2.2.2.2.2.2.2.2.2.2.2.2.2.2.2.1
theorem F_Law_law_1662 : Jvm.Free.DS.Facts code 1662 [(.aload_n 1, 1), (.aload_n 0, 1), (.iload 4, 2), (.iconst 1, 1), (.iadd, 1), (.iaload, 1), (.aload_n 0, 1), (.iload 4, 2), (.iconst 2, 1), (.iadd, 1), (.iaload, 1), (.invokevirtual 165, 3), (.aload_n 2, 1), (.aload_n 0, 1), (.iload 4, 2), (.iconst 1, 1), (.iadd, 1), (.iaload, 1), (.aload_n 0, 1), (.iload 4, 2), (.iconst 2, 1), (.iadd, 1), (.iaload, 1), (.invokevirtual 168, 3), (.if_icmp .eq (1677), 3)] := Jvm.Free.DS.facts 1662 _ (by decide +kernel) (by decide +kernel)
theorem d_Law_law_1662 : decode code 1662 = .ok (.aload_n 1, 1) := F_Law_law_1662.1
theorem d_Law_law_1663 : decode code 1663 = .ok (.aload_n 0, 1) := F_Law_law_1662.2.1
theorem d_Law_law_1664 : decode code 1664 = .ok (.iload 4, 2) := F_Law_law_1662.2.2.1
theorem d_Law_law_1666 : decode code 1666 = .ok (.iconst 1, 1) := F_Law_law_1662.2.2.2.1
theorem d_Law_law_1667 : decode code 1667 = .ok (.iadd, 1) := F_Law_law_1662.2.2.2.2.1
theorem d_Law_law_1668 : decode code 1668 = .ok (.iaload, 1) := F_Law_law_1662.2.2.2.2.2.1
theorem d_Law_law_1669 : decode code 1669 = .ok (.aload_n 0, 1) := F_Law_law_1662.2.2.2.2.2.2.1
theorem d_Law_law_1670 : decode code 1670 = .ok (.iload 4, 2) := F_Law_law_1662.2.2.2.2.2.2.2.1
theorem d_Law_law_1672 : decode code 1672 = .ok (.iconst 2, 1) := F_Law_law_1662.2.2.2.2.2.2.2.2.1
theorem d_Law_law_1673 : decode code 1673 = .ok (.iadd, 1) := F_Law_law_1662.2.2.2.2.2.2.2.2.2.1
theorem d_Law_law_1674 : decode code 1674 = .ok (.iaload, 1) := F_Law_law_1662.2.2.2.2.2.2.2.2.2.2.1
theorem d_Law_law_1675 : decode code 1675 = .ok (.invokevirtual 165, 3) := F_Law_law_1662.2.2.2.2.2.2.2.2.2.2.2.1
theorem d_Law_law_1678 : decode code 1678 = .ok (.aload_n 2, 1) := F_Law_law_1662.2.2.2.2.2.2.2.2.2.2.2.2.1
theorem d_Law_law_1679 : decode code 1679 = .ok (.aload_n 0, 1) := F_Law_law_1662.2.2.2.2.2.2.2.2.2.2.2.2.2.1
theorem d_Law_law_1680 : decode code 1680 = .ok (.iload 4, 2) := F_Law_law_1662.2.2.2.2.2.2.2.2.2.2.2.2.2.2.1
theorem d_Law_law_1682 : decode code 1682 = .ok (.iconst 1, 1) := F_Law_law_1662.2.2.2.2.2.2.2.2.2.2.2.2.2.2.2.1
theorem d_Law_law_1683 : decode code 1683 = .ok (.iadd, 1) := F_Law_law_1662.2.2.2.2.2.2.2.2.2.2.2.2.2.2.2.2.1
theorem d_Law_law_1684 : decode code 1684 = .ok (.iaload, 1) := F_Law_law_1662.2.2.2.2.2.2.2.2.2.2.2.2.2.2.2.2.2.1
theorem d_Law_law_1685 : decode code 1685 = .ok (.aload_n 0, 1) := F_Law_law_1662.2.2.2.2.2.2.2.2.2.2.2.2.2.2.2.2.2.2.1
theorem d_Law_law_1686 : decode code 1686 = .ok (.iload 4, 2) := F_Law_law_1662.2.2.2.2.2.2.2.2.2.2.2.2.2.2.2.2.2.2.2.1
theorem d_Law_law_1688 : decode code 1688 = .ok (.iconst 2, 1) := F_Law_law_1662.2.2.2.2.2.2.2.2.2.2.2.2.2.2.2.2.2.2.2.2.1
theorem d_Law_law_1689 : decode code 1689 = .ok (.iadd, 1) := F_Law_law_1662.2.2.2.2.2.2.2.2.2.2.2.2.2.2.2.2.2.2.2.2.2.1
theorem d_Law_law_1690 : decode code 1690 = .ok (.iaload, 1) := F_Law_law_1662.2.2.2.2.2.2.2.2.2.2.2.2.2.2.2.2.2.2.2.2.2.2.1
theorem d_Law_law_1691 : decode code 1691 = .ok (.invokevirtual 168, 3) := F_Law_law_1662.2.2.2.2.2.2.2.2.2.2.2.2.2.2.2.2.2.2.2.2.2.2.2.1
theorem d_Law_law_1694 : decode code 1694 = .ok (.if_icmp .eq (1677), 3) := F_Law_law_1662.2.2.2.2.2.2.2.2.2.2.2.2.2.2.2.2.2.2.2.2.2.2.2.2.1
theorem F_Law_law_1699 : Jvm.Free.DS.Facts code 1699 [(.aload_n 1, 1), (.aload_n 0, 1), (.iload 4, 2), (.iconst 1, 1), (.iadd, 1), (.iaload, 1), (.aload_n 0, 1), (.iload 4, 2), (.iconst 2, 1), (.iadd, 1), (.iaload, 1), (.aload_n 0, 1), (.iload 4, 2), (.iconst 3, 1), (.iadd, 1), (.iaload, 1), (.invokevirtual 169, 3), (.aload_n 2, 1), (.aload_n 0, 1), (.iload 4, 2), (.iconst 1, 1), (.iadd, 1), (.iaload, 1), (.aload_n 0, 1), (.iload 4, 2), (.iconst 2, 1), (.iadd, 1), (.iaload, 1), (.aload_n 0, 1), (.iload 4, 2), (.iconst 3, 1), (.iadd, 1)] := Jvm.Free.DS.facts 1699 _ (by decide +kernel) (by decide +kernel)
theorem d_Law_law_1699 : decode code 1699 = .ok (.aload_n 1, 1) := F_Law_law_1699.1
theorem d_Law_law_1700 : decode code 1700 = .ok (.aload_n 0, 1) := F_Law_law_1699.2.1
theorem d_Law_law_1701 : decode code 1701 = .ok (.iload 4, 2) := F_Law_law_1699.2.2.1
theorem d_Law_law_1703 : decode code 1703 = .ok (.iconst 1, 1) := F_Law_law_1699.2.2.2.1
theorem d_Law_law_1704 : decode code 1704 = .ok (.iadd, 1) := F_Law_law_1699.2.2.2.2.1
theorem d_Law_law_1705 : decode code 1705 = .ok (.iaload, 1) := F_Law_law_1699.2.2.2.2.2.1
theorem d_Law_law_1706 : decode code 1706 = .ok (.aload_n 0, 1) := F_Law_law_1699.2.2.2.2.2.2.1
theorem d_Law_law_1707 : decode code 1707 = .ok (.iload 4, 2) := F_Law_law_1699.2.2.2.2.2.2.2.1
theorem d_Law_law_1709 : decode code 1709 = .ok (.iconst 2, 1) := F_Law_law_1699.2.2.2.2.2.2.2.2.1
theorem d_Law_law_1710 : decode code 1710 = .ok (.iadd, 1) := F_Law_law_1699.2.2.2.2.2.2.2.2.2.1
theorem d_Law_law_1711 : decode code 1711 = .ok (.iaload, 1) := F_Law_law_1699.2.2.2.2.2.2.2.2.2.2.1
theorem d_Law_law_1712 : decode code 1712 = .ok (.aload_n 0, 1) := F_Law_law_1699.2.2.2.2.2.2.2.2.2.2.2.1
theorem d_Law_law_1713 : decode code 1713 = .ok (.iload 4, 2) := F_Law_law_1699.2.2.2.2.2.2.2.2.2.2.2.2.1
theorem d_Law_law_1715 : decode code 1715 = .ok (.iconst 3, 1) := F_Law_law_1699.2.2.2.2.2.2.2.2.2.2.2.2.2.1
theorem d_Law_law_1716 : decode code 1716 = .ok (.iadd, 1) := F_Law_law_1699.2.2.2.2.2.2.2.2.2.2.2.2.2.2.1
theorem d_Law_law_1717 : decode code 1717 = .ok (.iaload, 1) := F_Law_law_1699.2.2.2.2.2.2.2.2.2.2.2.2.2.2.2.1
theorem d_Law_law_1718 : decode code 1718 = .ok (.invokevirtual 169, 3) := F_Law_law_1699.2.2.2.2.2.2.2.2.2.2.2.2.2.2.2.2.1
theorem d_Law_law_1721 : decode code 1721 = .ok (.aload_n 2, 1) := F_Law_law_1699.2.2.2.2.2.2.2.2.2.2.2.2.2.2.2.2.2.1
theorem d_Law_law_1722 : decode code 1722 = .ok (.aload_n 0, 1) := F_Law_law_1699.2.2.2.2.2.2.2.2.2.2.2.2.2.2.2.2.2.2.1
theorem d_Law_law_1723 : decode code 1723 = .ok (.iload 4, 2) := F_Law_law_1699.2.2.2.2.2.2.2.2.2.2.2.2.2.2.2.2.2.2.2.1
theorem d_Law_law_1725 : decode code 1725 = .ok (.iconst 1, 1) := F_Law_law_1699.2.2.2.2.2.2.2.2.2.2.2.2.2.2.2.2.2.2.2.2.1
theorem d_Law_law_1726 : decode code 1726 = .ok (.iadd, 1) := F_Law_law_1699.2.2.2.2.2.2.2.2.2.2.2.2.2.2.2.2.2.2.2.2.2.1
theorem d_Law_law_1727 : decode code 1727 = .ok (.iaload, 1) := F_Law_law_1699.2.2.2.2.2.2.2.2.2.2.2.2.2.2.2.2.2.2.2.2.2.2.1
theorem d_Law_law_1728 : decode code 1728 = .ok (.aload_n 0, 1) := F_Law_law_1699.2.2.2.2.2.2.2.2.2.2.2.2.2.2.2.2.2.2.2.2.2.2.2.1
theorem d_Law_law_1729 : decode code 1729 = .ok (.iload 4, 2) := F_Law_law_1699.2.2.2.2.2.2.2.2.2.2.2.2.2.2.2.2.2.2.2.2.2.2.2.2.1
theorem d_Law_law_1731 : decode code 1731 = .ok (.iconst 2, 1) := F_Law_law_1699.2.2.2.2.2.2.2.2.2.2.2.2.2.2.2.2.2.2.2.2.2.2.2.2.2.1
theorem d_Law_law_1732 : decode code 1732 = .ok (.iadd, 1) := F_Law_law_1699.2.2.2.2.2.2.2.2.2.2.2.2.2.2.2.2.2.2.2.2.2.2.2.2.2.2.1
theorem d_Law_law_1733 : decode code 1733 = .ok (.iaload, 1) := F_Law_law_1699.2.2.2.2.2.2.2.2.2.2.2.2.2.2.2.2.2.2.2.2.2.2.2.2.2.2.2.1
theorem d_Law_law_1734 : decode code 1734 = .ok (.aload_n 0, 1) := F_Law_law_1699.2.2.2.2.2.2.2.2.2.2.2.2.2.2.2.2.2.2.2.2.2.2.2.2.2.2.2.2.1
theorem d_Law_law_1735 : decode code 1735 = .ok (.iload 4, 2) := F_Law_law_1699.2.2.2.2.2.2.2.2.2.2.2.2.2.2.2.2.2.2.2.2.2.2.2.2.2.2.2.2.2.1
theorem d_Law_law_1737 : decode code 1737 = .ok (.iconst 3, 1) := F_Law_law_1699.2.2.2.2.2.2.2.2.2.2.2.2.2.2.2.2.2.2.2.2.2.2.2.2.2.2.2.2.2.2.1
theorem d_Law_law_1738 : decode code 1738 = .ok (.iadd, 1) := F_Law_law_1699.2.2.2.2.2.2.2.2.2.2.2.2.2.2.2.2.2.2.2.2.2.2.2.2.2.2.2.2.2.2.2.1
theorem F_Law_law_1739 : Jvm.Free.DS.Facts code 1739 [(.iaload, 1), (.invokevirtual 173, 3), (.lcmp, 1), (.ifCond .eq (1627), 3)] := Jvm.Free.DS.facts 1739 _ (by decide +kernel) (by decide +kernel)
theorem d_Law_law_1739 : decode code 1739 = .ok (.iaload, 1) := F_Law_law_1739.1
theorem d_Law_law_1740 : decode code 1740 = .ok (.invokevirtual 173, 3) := F_Law_law_1739.2.1
theorem d_Law_law_1743 : decode code 1743 = .ok (.lcmp, 1) := F_Law_law_1739.2.2.1
theorem d_Law_law_1744 : decode code 1744 = .ok (.ifCond .eq (1627), 3) := F_Law_law_1739.2.2.2.1
theorem F_Law_law_1749 : Jvm.Free.DS.Facts code 1749 [(.aload_n 1, 1), (.aload_n 0, 1), (.iload 4, 2), (.iconst 1, 1), (.iadd, 1), (.iaload, 1), (.aload_n 0, 1), (.iload 4, 2), (.iconst 2, 1), (.iadd, 1), (.iaload, 1), (.aload_n 0, 1), (.iload 4, 2), (.iconst 3, 1), (.iadd, 1), (.iaload, 1), (.invokevirtual 174, 3), (.aload_n 2, 1), (.aload_n 0, 1), (.iload 4, 2), (.iconst 1, 1), (.iadd, 1), (.iaload, 1), (.aload_n 0, 1), (.iload 4, 2), (.iconst 2, 1), (.iadd, 1), (.iaload, 1), (.aload_n 0, 1), (.iload 4, 2), (.iconst 3, 1), (.iadd, 1)] := Jvm.Free.DS.facts 1749 _ (by decide +kernel) (by decide +kernel)
theorem d_Law_law_1749 : decode code 1749 = .ok (.aload_n 1, 1) := F_Law_law_1749.1
theorem d_Law_law_1750 : decode code 1750 = .ok (.aload_n 0, 1) := F_Law_law_1749.2.1
theorem d_Law_law_1751 : decode code 1751 = .ok (.iload 4, 2) := F_Law_law_1749.2.2.1
theorem d_Law_law_1753 : decode code 1753 = .ok (.iconst 1, 1) := F_Law_law_1749.2.2.2.1
theorem d_Law_law_1754 : decode code 1754 = .ok (.iadd, 1) := F_Law_law_1749.2.2.2.2.1
theorem d_Law_law_1755 : decode code 1755 = .ok (.iaload, 1) := F_Law_law_1749.2.2.2.2.2.1
theorem d_Law_law_1756 : decode code 1756 = .ok (.aload_n 0, 1) := F_Law_law_1749.2.2.2.2.2.2.1
theorem d_Law_law_1757 : decode code 1757 = .ok (.iload 4, 2) := F_Law_law_1749.2.2.2.2.2.2.2.1
theorem d_Law_law_1759 : decode code 1759 = .ok (.iconst 2, 1) := F_Law_law_1749.2.2.2.2.2.2.2.2.1
theorem d_Law_law_1760 : decode code 1760 = .ok (.iadd, 1) := F_Law_law_1749.2.2.2.2.2.2.2.2.2.1
theorem d_Law_law_1761 : decode code 1761 = .ok (.iaload, 1) := F_Law_law_1749.2.2.2.2.2.2.2.2.2.2.1
theorem d_Law_law_1762 : decode code 1762 = .ok (.aload_n 0, 1) := F_Law_law_1749.2.2.2.2.2.2.2.2.2.2.2.1
theorem d_Law_law_1763 : decode code 1763 = .ok (.iload 4, 2) := F_Law_law_1749.2.2.2.2.2.2.2.2.2.2.2.2.1
theorem d_Law_law_1765 : decode code 1765 = .ok (.iconst 3, 1) := F_Law_law_1749.2.2.2.2.2.2.2.2.2.2.2.2.2.1
theorem d_Law_law_1766 : decode code 1766 = .ok (.iadd, 1) := F_Law_law_1749.2.2.2.2.2.2.2.2.2.2.2.2.2.2.1
theorem d_Law_law_1767 : decode code 1767 = .ok (.iaload, 1) := F_Law_law_1749.2.2.2.2.2.2.2.2.2.2.2.2.2.2.2.1
theorem d_Law_law_1768 : decode code 1768 = .ok (.invokevirtual 174, 3) := F_Law_law_1749.2.2.2.2.2.2.2.2.2.2.2.2.2.2.2.2.1
theorem d_Law_law_1771 : decode code 1771 = .ok (.aload_n 2, 1) := F_Law_law_1749.2.2.2.2.2.2.2.2.2.2.2.2.2.2.2.2.2.1
theorem d_Law_law_1772 : decode code 1772 = .ok (.aload_n 0, 1) := F_Law_law_1749.2.2.2.2.2.2.2.2.2.2.2.2.2.2.2.2.2.2.1
theorem d_Law_law_1773 : decode code 1773 = .ok (.iload 4, 2) := F_Law_law_1749.2.2.2.2.2.2.2.2.2.2.2.2.2.2.2.2.2.2.2.1
theorem d_Law_law_1775 : decode code 1775 = .ok (.iconst 1, 1) := F_Law_law_1749.2.2.2.2.2.2.2.2.2.2.2.2.2.2.2.2.2.2.2.2.1
theorem d_Law_law_1776 : decode code 1776 = .ok (.iadd, 1) := F_Law_law_1749.2.2.2.2.2.2.2.2.2.2.2.2.2.2.2.2.2.2.2.2.2.1
theorem d_Law_law_1777 : decode code 1777 = .ok (.iaload, 1) := F_Law_law_1749.2.2.2.2.2.2.2.2.2.2.2.2.2.2.2.2.2.2.2.2.2.2.1
theorem d_Law_law_1778 : decode code 1778 = .ok (.aload_n 0, 1) := F_Law_law_1749.2.2.2.2.2.2.2.2.2.2.2.2.2.2.2.2.2.2.2.2.2.2.2.1
theorem d_Law_law_1779 : decode code 1779 = .ok (.iload 4, 2) := F_Law_law_1749.2.2.2.2.2.2.2.2.2.2.2.2.2.2.2.2.2.2.2.2.2.2.2.2.1
theorem d_Law_law_1781 : decode code 1781 = .ok (.iconst 2, 1) := F_Law_law_1749.2.2.2.2.2.2.2.2.2.2.2.2.2.2.2.2.2.2.2.2.2.2.2.2.2.1
theorem d_Law_law_1782 : decode code 1782 = .ok (.iadd, 1) := F_Law_law_1749.2.2.2.2.2.2.2.2.2.2.2.2.2.2.2.2.2.2.2.2.2.2.2.2.2.2.1
theorem d_Law_law_1783 : decode code 1783 = .ok (.iaload, 1) := F_Law_law_1749.2.2.2.2.2.2.2.2.2.2.2.2.2.2.2.2.2.2.2.2.2.2.2.2.2.2.2.1
theorem d_Law_law_1784 : decode code 1784 = .ok (.aload_n 0, 1) := F_Law_law_1749.2.2.2.2.2.2.2.2.2.2.2.2.2.2.2.2.2.2.2.2.2.2.2.2.2.2.2.2.1
theorem d_Law_law_1785 : decode code 1785 = .ok (.iload 4, 2) := F_Law_law_1749.2.2.2.2.2.2.2.2.2.2.2.2.2.2.2.2.2.2.2.2.2.2.2.2.2.2.2.2.2.1
theorem d_Law_law_1787 : decode code 1787 = .ok (.iconst 3, 1) := F_Law_law_1749.2.2.2.2.2.2.2.2.2.2.2.2.2.2.2.2.2.2.2.2.2.2.2.2.2.2.2.2.2.2.1
theorem d_Law_law_1788 : decode code 1788 = .ok (.iadd, 1) := F_Law_law_1749.2.2.2.2.2.2.2.2.2.2.2.2.2.2.2.2.2.2.2.2.2.2.2.2.2.2.2.2.2.2.2.1
theorem F_Law_law_1789 : Jvm.Free.DS.Facts code 1789 [(.iaload, 1), (.invokevirtual 177, 3), (.if_icmp .eq (1578), 3)] := Jvm.Free.DS.facts 1789 _ (by decide +kernel) (by decide +kernel)
theorem d_Law_law_1789 : decode code 1789 = .ok (.iaload, 1) := F_Law_law_1789.1
theorem d_Law_law_1790 : decode code 1790 = .ok (.invokevirtual 177, 3) := F_Law_law_1789.2.1
theorem d_Law_law_1793 : decode code 1793 = .ok (.if_icmp .eq (1578), 3) := F_Law_law_1789.2.2.1
theorem F_Law_law_1798 : Jvm.Free.DS.Facts code 1798 [(.aload_n 1, 1), (.aload_n 0, 1), (.iload 4, 2), (.iconst 1, 1), (.iadd, 1), (.iaload, 1), (.aload_n 0, 1), (.iload 4, 2), (.iconst 2, 1), (.iadd, 1), (.iaload, 1), (.aload_n 0, 1), (.iload 4, 2), (.iconst 3, 1), (.iadd, 1), (.iaload, 1), (.aload_n 0, 1), (.iload 4, 2), (.iconst 4, 1), (.iadd, 1), (.iaload, 1), (.aload_n 0, 1), (.iload 4, 2), (.iconst 5, 1), (.iadd, 1), (.iaload, 1), (.invokevirtual 178, 3), (.aload_n 2, 1), (.aload_n 0, 1), (.iload 4, 2), (.iconst 1, 1), (.iadd, 1)] := Jvm.Free.DS.facts 1798 _ (by decide +kernel) (by decide +kernel)
theorem d_Law_law_1798 : decode code 1798 = .ok (.aload_n 1, 1) := F_Law_law_1798.1
theorem d_Law_law_1799 : decode code 1799 = .ok (.aload_n 0, 1) := F_Law_law_1798.2.1
theorem d_Law_law_1800 : decode code 1800 = .ok (.iload 4, 2) := F_Law_law_1798.2.2.1
theorem d_Law_law_1802 : decode code 1802 = .ok (.iconst 1, 1) := F_Law_law_1798.2.2.2.1
theorem d_Law_law_1803 : decode code 1803 = .ok (.iadd, 1) := F_Law_law_1798.2.2.2.2.1
theorem d_Law_law_1804 : decode code 1804 = .ok (.iaload, 1) := F_Law_law_1798.2.2.2.2.2.1
theorem d_Law_law_1805 : decode code 1805 = .ok (.aload_n 0, 1) := F_Law_law_1798.2.2.2.2.2.2.1
theorem d_Law_law_1806 : decode code 1806 = .ok (.iload 4, 2) := F_Law_law_1798.2.2.2.2.2.2.2.1
theorem d_Law_law_1808 : decode code 1808 = .ok (.iconst 2, 1) := F_Law_law_1798.2.2.2.2.2.2.2.2.1
theorem d_Law_law_1809 : decode code 1809 = .ok (.iadd, 1) := F_Law_law_1798.2.2.2.2.2.2.2.2.2.1
theorem d_Law_law_1810 : decode code 1810 = .ok (.iaload, 1) := F_Law_law_1798.2.2.2.2.2.2.2.2.2.2.1
theorem d_Law_law_1811 : decode code 1811 = .ok (.aload_n 0, 1) := F_Law_law_1798.2.2.2.2.2.2.2.2.2.2.2.1
theorem d_Law_law_1812 : decode code 1812 = .ok (.iload 4, 2) := F_Law_law_1798.2.2.2.2.2.2.2.2.2.2.2.2.1
theorem d_Law_law_1814 : decode code 1814 = .ok (.iconst 3, 1) := F_Law_law_1798.2.2.2.2.2.2.2.2.2.2.2.2.2.1
theorem d_Law_law_1815 : decode code 1815 = .ok (.iadd, 1) := F_Law_law_1798.2.2.2.2.2.2.2.2.2.2.2.2.2.2.1
theorem d_Law_law_1816 : decode code 1816 = .ok (.iaload, 1) := F_Law_law_1798.2.2.2.2.2.2.2.2.2.2.2.2.2.2.2.1
theorem d_Law_law_1817 : decode code 1817 = .ok (.aload_n 0, 1) := F_Law_law_1798.2.2.2.2.2.2.2.2.2.2.2.2.2.2.2.2.1
theorem d_Law_law_1818 : decode code 1818 = .ok (.iload 4, 2) := F_Law_law_1798.2.2.2.2.2.2.2.2.2.2.2.2.2.2.2.2.2.1
theorem d_Law_law_1820 : decode code 1820 = .ok (.iconst 4, 1) := F_Law_law_1798.2.2.2.2.2.2.2.2.2.2.2.2.2.2.2.2.2.2.1
theorem d_Law_law_1821 : decode code 1821 = .ok (.iadd, 1) := F_Law_law_1798.2.2.2.2.2.2.2.2.2.2.2.2.2.2.2.2.2.2.2.1
theorem d_Law_law_1822 : decode code 1822 = .ok (.iaload, 1) := F_Law_law_1798.2.2.2.2.2.2.2.2.2.2.2.2.2.2.2.2.2.2.2.2.1
theorem d_Law_law_1823 : decode code 1823 = .ok (.aload_n 0, 1) := F_Law_law_1798.2.2.2.2.2.2.2.2.2.2.2.2.2.2.2.2.2.2.2.2.2.1
theorem d_Law_law_1824 : decode code 1824 = .ok (.iload 4, 2) := F_Law_law_1798.2.2.2.2.2.2.2.2.2.2.2.2.2.2.2.2.2.2.2.2.2.2.1
theorem d_Law_law_1826 : decode code 1826 = .ok (.iconst 5, 1) := F_Law_law_1798.2.2.2.2.2.2.2.2.2.2.2.2.2.2.2.2.2.2.2.2.2.2.2.1
theorem d_Law_law_1827 : decode code 1827 = .ok (.iadd, 1) := F_Law_law_1798.2.2.2.2.2.2.2.2.2.2.2.2.2.2.2.2.2.2.2.2.2.2.2.2.1
theorem d_Law_law_1828 : decode code 1828 = .ok (.iaload, 1) := F_Law_law_1798.2.2.2.2.2.2.2.2.2.2.2.2.2.2.2.2.2.2.2.2.2.2.2.2.2.1
theorem d_Law_law_1829 : decode code 1829 = .ok (.invokevirtual 178, 3) := F_Law_law_1798.2.2.2.2.2.2.2.2.2.2.2.2.2.2.2.2.2.2.2.2.2.2.2.2.2.2.1
theorem d_Law_law_1832 : decode code 1832 = .ok (.aload_n 2, 1) := F_Law_law_1798.2.2.2.2.2.2.2.2.2.2.2.2.2.2.2.2.2.2.2.2.2.2.2.2.2.2.2.1
theorem d_Law_law_1833 : decode code 1833 = .ok (.aload_n 0, 1) := F_Law_law_1798.2.2.2.2.2.2.2.2.2.2.2.2.2.2.2.2.2.2.2.2.2.2.2.2.2.2.2.2.1
theorem d_Law_law_1834 : decode code 1834 = .ok (.iload 4, 2) := F_Law_law_1798.2.2.2.2.2.2.2.2.2.2.2.2.2.2.2.2.2.2.2.2.2.2.2.2.2.2.2.2.2.1
theorem d_Law_law_1836 : decode code 1836 = .ok (.iconst 1, 1) := F_Law_law_1798.2.2.2.2.2.2.2.2.2.2.2.2.2.2.2.2.2.2.2.2.2.2.2.2.2.2.2.2.2.2.1
theorem d_Law_law_1837 : decode code 1837 = .ok (.iadd, 1) := F_Law_law_1798.2.2.2.2.2.2.2.2.2.2.2.2.2.2.2.2.2.2.2.2.2.2.2.2.2.2.2.2.2.2.2.1
theorem F_Law_law_1838 : Jvm.Free.DS.Facts code 1838 [(.iaload, 1), (.aload_n 0, 1), (.iload 4, 2), (.iconst 2, 1), (.iadd, 1), (.iaload, 1), (.aload_n 0, 1), (.iload 4, 2), (.iconst 3, 1), (.iadd, 1), (.iaload, 1), (.aload_n 0, 1), (.iload 4, 2), (.iconst 4, 1), (.iadd, 1), (.iaload, 1), (.aload_n 0, 1), (.iload 4, 2), (.iconst 5, 1), (.iadd, 1), (.iaload, 1), (.invokevirtual 181, 3), (.lcmp, 1), (.ifCond .eq (1504), 3)] := Jvm.Free.DS.facts 1838 _ (by decide +kernel) (by decide +kernel)
theorem d_Law_law_1838 : decode code 1838 = .ok (.iaload, 1) := F_Law_law_1838.1
theorem d_Law_law_1839 : decode code 1839 = .ok (.aload_n 0, 1) := F_Law_law_1838.2.1
theorem d_Law_law_1840 : decode code 1840 = .ok (.iload 4, 2) := F_Law_law_1838.2.2.1
theorem d_Law_law_1842 : decode code 1842 = .ok (.iconst 2, 1) := F_Law_law_1838.2.2.2.1
theorem d_Law_law_1843 : decode code 1843 = .ok (.iadd, 1) := F_Law_law_1838.2.2.2.2.1
theorem d_Law_law_1844 : decode code 1844 = .ok (.iaload, 1) := F_Law_law_1838.2.2.2.2.2.1
theorem d_Law_law_1845 : decode code 1845 = .ok (.aload_n 0, 1) := F_Law_law_1838.2.2.2.2.2.2.1
theorem d_Law_law_1846 : decode code 1846 = .ok (.iload 4, 2) := F_Law_law_1838.2.2.2.2.2.2.2.1
theorem d_Law_law_1848 : decode code 1848 = .ok (.iconst 3, 1) := F_Law_law_1838.2.2.2.2.2.2.2.2.1
theorem d_Law_law_1849 : decode code 1849 = .ok (.iadd, 1) := F_Law_law_1838.2.2.2.2.2.2.2.2.2.1
theorem d_Law_law_1850 : decode code 1850 = .ok (.iaload, 1) := F_Law_law_1838.2.2.2.2.2.2.2.2.2.2.1
theorem d_Law_law_1851 : decode code 1851 = .ok (.aload_n 0, 1) := F_Law_law_1838.2.2.2.2.2.2.2.2.2.2.2.1
theorem d_Law_law_1852 : decode code 1852 = .ok (.iload 4, 2) := F_Law_law_1838.2.2.2.2.2.2.2.2.2.2.2.2.1
theorem d_Law_law_1854 : decode code 1854 = .ok (.iconst 4, 1) := F_Law_law_1838.2.2.2.2.2.2.2.2.2.2.2.2.2.1
theorem d_Law_law_1855 : decode code 1855 = .ok (.iadd, 1) := F_Law_law_1838.2.2.2.2.2.2.2.2.2.2.2.2.2.2.1
theorem d_Law_law_1856 : decode code 1856 = .ok (.iaload, 1) := F_Law_law_1838.2.2.2.2.2.2.2.2.2.2.2.2.2.2.2.1
theorem d_Law_law_1857 : decode code 1857 = .ok (.aload_n 0, 1) := F_Law_law_1838.2.2.2.2.2.2.2.2.2.2.2.2.2.2.2.2.1
theorem d_Law_law_1858 : decode code 1858 = .ok (.iload 4, 2) := F_Law_law_1838.2.2.2.2.2.2.2.2.2.2.2.2.2.2.2.2.2.1
theorem d_Law_law_1860 : decode code 1860 = .ok (.iconst 5, 1) := F_Law_law_1838.2.2.2.2.2.2.2.2.2.2.2.2.2.2.2.2.2.2.1
theorem d_Law_law_1861 : decode code 1861 = .ok (.iadd, 1) := F_Law_law_1838.2.2.2.2.2.2.2.2.2.2.2.2.2.2.2.2.2.2.2.1
theorem d_Law_law_1862 : decode code 1862 = .ok (.iaload, 1) := F_Law_law_1838.2.2.2.2.2.2.2.2.2.2.2.2.2.2.2.2.2.2.2.2.1
theorem d_Law_law_1863 : decode code 1863 = .ok (.invokevirtual 181, 3) := F_Law_law_1838.2.2.2.2.2.2.2.2.2.2.2.2.2.2.2.2.2.2.2.2.2.1
theorem d_Law_law_1866 : decode code 1866 = .ok (.lcmp, 1) := F_Law_law_1838.2.2.2.2.2.2.2.2.2.2.2.2.2.2.2.2.2.2.2.2.2.2.1
theorem d_Law_law_1867 : decode code 1867 = .ok (.ifCond .eq (1504), 3) := F_Law_law_1838.2.2.2.2.2.2.2.2.2.2.2.2.2.2.2.2.2.2.2.2.2.2.2.1
theorem F_Law_law_1872 : Jvm.Free.DS.Facts code 1872 [(.aload_n 1, 1), (.aload_n 0, 1), (.iload 4, 2), (.iconst 1, 1), (.iadd, 1), (.iaload, 1), (.aload_n 0, 1), (.iload 4, 2), (.iconst 2, 1), (.iadd, 1), (.iaload, 1), (.aload_n 0, 1), (.iload 4, 2), (.iconst 3, 1), (.iadd, 1), (.iaload, 1), (.aload_n 0, 1), (.iload 4, 2), (.iconst 4, 1), (.iadd, 1), (.iaload, 1), (.aload_n 0, 1), (.iload 4, 2), (.iconst 5, 1), (.iadd, 1), (.iaload, 1), (.invokevirtual 182, 3), (.aload_n 2, 1), (.aload_n 0, 1), (.iload 4, 2), (.iconst 1, 1), (.iadd, 1)] := Jvm.Free.DS.facts 1872 _ (by decide +kernel) (by decide +kernel)
theorem d_Law_law_1872 : decode code 1872 = .ok (.aload_n 1, 1) := F_Law_law_1872.1
theorem d_Law_law_1873 : decode code 1873 = .ok (.aload_n 0, 1) := F_Law_law_1872.2.1
theorem d_Law_law_1874 : decode code 1874 = .ok (.iload 4, 2) := F_Law_law_1872.2.2.1
theorem d_Law_law_1876 : decode code 1876 = .ok (.iconst 1, 1) := F_Law_law_1872.2.2.2.1
theorem d_Law_law_1877 : decode code 1877 = .ok (.iadd, 1) := F_Law_law_1872.2.2.2.2.1
theorem d_Law_law_1878 : decode code 1878 = .ok (.iaload, 1) := F_Law_law_1872.2.2.2.2.2.1
theorem d_Law_law_1879 : decode code 1879 = .ok (.aload_n 0, 1) := F_Law_law_1872.2.2.2.2.2.2.1
theorem d_Law_law_1880 : decode code 1880 = .ok (.iload 4, 2) := F_Law_law_1872.2.2.2.2.2.2.2.1
theorem d_Law_law_1882 : decode code 1882 = .ok (.iconst 2, 1) := F_Law_law_1872.2.2.2.2.2.2.2.2.1
theorem d_Law_law_1883 : decode code 1883 = .ok (.iadd, 1) := F_Law_law_1872.2.2.2.2.2.2.2.2.2.1
theorem d_Law_law_1884 : decode code 1884 = .ok (.iaload, 1) := F_Law_law_1872.2.2.2.2.2.2.2.2.2.2.1
theorem d_Law_law_1885 : decode code 1885 = .ok (.aload_n 0, 1) := F_Law_law_1872.2.2.2.2.2.2.2.2.2.2.2.1
theorem d_Law_law_1886 : decode code 1886 = .ok (.iload 4, 2) := F_Law_law_1872.2.2.2.2.2.2.2.2.2.2.2.2.1
theorem d_Law_law_1888 : decode code 1888 = .ok (.iconst 3, 1) := F_Law_law_1872.2.2.2.2.2.2.2.2.2.2.2.2.2.1
theorem d_Law_law_1889 : decode code 1889 = .ok (.iadd, 1) := F_Law_law_1872.2.2.2.2.2.2.2.2.2.2.2.2.2.2.1
theorem d_Law_law_1890 : decode code 1890 = .ok (.iaload, 1) := F_Law_law_1872.2.2.2.2.2.2.2.2.2.2.2.2.2.2.2.1
theorem d_Law_law_1891 : decode code 1891 = .ok (.aload_n 0, 1) := F_Law_law_1872.2.2.2.2.2.2.2.2.2.2.2.2.2.2.2.2.1
theorem d_Law_law_1892 : decode code 1892 = .ok (.iload 4, 2) := F_Law_law_1872.2.2.2.2.2.2.2.2.2.2.2.2.2.2.2.2.2.1
theorem d_Law_law_1894 : decode code 1894 = .ok (.iconst 4, 1) := F_Law_law_1872.2.2.2.2.2.2.2.2.2.2.2.2.2.2.2.2.2.2.1
theorem d_Law_law_1895 : decode code 1895 = .ok (.iadd, 1) := F_Law_law_1872.2.2.2.2.2.2.2.2.2.2.2.2.2.2.2.2.2.2.2.1
theorem d_Law_law_1896 : decode code 1896 = .ok (.iaload, 1) := F_Law_law_1872.2.2.2.2.2.2.2.2.2.2.2.2.2.2.2.2.2.2.2.2.1
theorem d_Law_law_1897 : decode code 1897 = .ok (.aload_n 0, 1) := F_Law_law_1872.2.2.2.2.2.2.2.2.2.2.2.2.2.2.2.2.2.2.2.2.2.1
theorem d_Law_law_1898 : decode code 1898 = .ok (.iload 4, 2) := F_Law_law_1872.2.2.2.2.2.2.2.2.2.2.2.2.2.2.2.2.2.2.2.2.2.2.1
theorem d_Law_law_1900 : decode code 1900 = .ok (.iconst 5, 1) := F_Law_law_1872.2.2.2.2.2.2.2.2.2.2.2.2.2.2.2.2.2.2.2.2.2.2.2.1
theorem d_Law_law_1901 : decode code 1901 = .ok (.iadd, 1) := F_Law_law_1872.2.2.2.2.2.2.2.2.2.2.2.2.2.2.2.2.2.2.2.2.2.2.2.2.1
theorem d_Law_law_1902 : decode code 1902 = .ok (.iaload, 1) := F_Law_law_1872.2.2.2.2.2.2.2.2.2.2.2.2.2.2.2.2.2.2.2.2.2.2.2.2.2.1
theorem d_Law_law_1903 : decode code 1903 = .ok (.invokevirtual 182, 3) := F_Law_law_1872.2.2.2.2.2.2.2.2.2.2.2.2.2.2.2.2.2.2.2.2.2.2.2.2.2.2.1
theorem d_Law_law_1906 : decode code 1906 = .ok (.aload_n 2, 1) := F_Law_law_1872.2.2.2.2.2.2.2.2.2.2.2.2.2.2.2.2.2.2.2.2.2.2.2.2.2.2.2.1
theorem d_Law_law_1907 : decode code 1907 = .ok (.aload_n 0, 1) := F_Law_law_1872.2.2.2.2.2.2.2.2.2.2.2.2.2.2.2.2.2.2.2.2.2.2.2.2.2.2.2.2.1
theorem d_Law_law_1908 : decode code 1908 = .ok (.iload 4, 2) := F_Law_law_1872.2.2.2.2.2.2.2.2.2.2.2.2.2.2.2.2.2.2.2.2.2.2.2.2.2.2.2.2.2.1
theorem d_Law_law_1910 : decode code 1910 = .ok (.iconst 1, 1) := F_Law_law_1872.2.2.2.2.2.2.2.2.2.2.2.2.2.2.2.2.2.2.2.2.2.2.2.2.2.2.2.2.2.2.1
theorem d_Law_law_1911 : decode code 1911 = .ok (.iadd, 1) := F_Law_law_1872.2.2.2.2.2.2.2.2.2.2.2.2.2.2.2.2.2.2.2.2.2.2.2.2.2.2.2.2.2.2.2.1
theorem F_Law_law_1912 : Jvm.Free.DS.Facts code 1912 [(.iaload, 1), (.aload_n 0, 1), (.iload 4, 2), (.iconst 2, 1), (.iadd, 1), (.iaload, 1), (.aload_n 0, 1), (.iload 4, 2), (.iconst 3, 1), (.iadd, 1), (.iaload, 1), (.aload_n 0, 1), (.iload 4, 2), (.iconst 4, 1), (.iadd, 1), (.iaload, 1), (.aload_n 0, 1), (.iload 4, 2), (.iconst 5, 1), (.iadd, 1), (.iaload, 1), (.invokevirtual 185, 3), (.lcmp, 1), (.ifCond .eq (1430), 3)] := Jvm.Free.DS.facts 1912 _ (by decide +kernel) (by decide +kernel)
theorem d_Law_law_1912 : decode code 1912 = .ok (.iaload, 1) := F_Law_law_1912.1
theorem d_Law_law_1913 : decode code 1913 = .ok (.aload_n 0, 1) := F_Law_law_1912.2.1
theorem d_Law_law_1914 : decode code 1914 = .ok (.iload 4, 2) := F_Law_law_1912.2.2.1
theorem d_Law_law_1916 : decode code 1916 = .ok (.iconst 2, 1) := F_Law_law_1912.2.2.2.1
theorem d_Law_law_1917 : decode code 1917 = .ok (.iadd, 1) := F_Law_law_1912.2.2.2.2.1
theorem d_Law_law_1918 : decode code 1918 = .ok (.iaload, 1) := F_Law_law_1912.2.2.2.2.2.1
theorem d_Law_law_1919 : decode code 1919 = .ok (.aload_n 0, 1) := F_Law_law_1912.2.2.2.2.2.2.1
theorem d_Law_law_1920 : decode code 1920 = .ok (.iload 4, 2) := F_Law_law_1912.2.2.2.2.2.2.2.1
theorem d_Law_law_1922 : decode code 1922 = .ok (.iconst 3, 1) := F_Law_law_1912.2.2.2.2.2.2.2.2.1
theorem d_Law_law_1923 : decode code 1923 = .ok (.iadd, 1) := F_Law_law_1912.2.2.2.2.2.2.2.2.2.1
theorem d_Law_law_1924 : decode code 1924 = .ok (.iaload, 1) := F_Law_law_1912.2.2.2.2.2.2.2.2.2.2.1
theorem d_Law_law_1925 : decode code 1925 = .ok (.aload_n 0, 1) := F_Law_law_1912.2.2.2.2.2.2.2.2.2.2.2.1
theorem d_Law_law_1926 : decode code 1926 = .ok (.iload 4, 2) := F_Law_law_1912.2.2.2.2.2.2.2.2.2.2.2.2.1
theorem d_Law_law_1928 : decode code 1928 = .ok (.iconst 4, 1) := F_Law_law_1912.2.2.2.2.2.2.2.2.2.2.2.2.2.1
theorem d_Law_law_1929 : decode code 1929 = .ok (.iadd, 1) := F_Law_law_1912.2.2.2.2.2.2.2.2.2.2.2.2.2.2.1
theorem d_Law_law_1930 : decode code 1930 = .ok (.iaload, 1) := F_Law_law_1912.2.2.2.2.2.2.2.2.2.2.2.2.2.2.2.1
theorem d_Law_law_1931 : decode code 1931 = .ok (.aload_n 0, 1) := F_Law_law_1912.2.2.2.2.2.2.2.2.2.2.2.2.2.2.2.2.1
theorem d_Law_law_1932 : decode code 1932 = .ok (.iload 4, 2) := F_Law_law_1912.2.2.2.2.2.2.2.2.2.2.2.2.2.2.2.2.2.1
theorem d_Law_law_1934 : decode code 1934 = .ok (.iconst 5, 1) := F_Law_law_1912.2.2.2.2.2.2.2.2.2.2.2.2.2.2.2.2.2.2.1
theorem d_Law_law_1935 : decode code 1935 = .ok (.iadd, 1) := F_Law_law_1912.2.2.2.2.2.2.2.2.2.2.2.2.2.2.2.2.2.2.2.1
theorem d_Law_law_1936 : decode code 1936 = .ok (.iaload, 1) := F_Law_law_1912.2.2.2.2.2.2.2.2.2.2.2.2.2.2.2.2.2.2.2.2.1
theorem d_Law_law_1937 : decode code 1937 = .ok (.invokevirtual 185, 3) := F_Law_law_1912.2.2.2.2.2.2.2.2.2.2.2.2.2.2.2.2.2.2.2.2.2.1
theorem d_Law_law_1940 : decode code 1940 = .ok (.lcmp, 1) := F_Law_law_1912.2.2.2.2.2.2.2.2.2.2.2.2.2.2.2.2.2.2.2.2.2.2.1
theorem d_Law_law_1941 : decode code 1941 = .ok (.ifCond .eq (1430), 3) := F_Law_law_1912.2.2.2.2.2.2.2.2.2.2.2.2.2.2.2.2.2.2.2.2.2.2.2.1
theorem F_Law_law_1946 : Jvm.Free.DS.Facts code 1946 [(.aload_n 1, 1), (.aload_n 0, 1), (.iload 4, 2), (.iconst 1, 1), (.iadd, 1), (.iaload, 1), (.aload_n 0, 1), (.iload 4, 2), (.iconst 2, 1), (.iadd, 1), (.iaload, 1), (.aload_n 0, 1), (.iload 4, 2), (.iconst 3, 1), (.iadd, 1), (.iaload, 1), (.aload_n 0, 1), (.iload 4, 2), (.iconst 4, 1), (.iadd, 1), (.iaload, 1), (.invokevirtual 186, 3), (.aload_n 2, 1), (.aload_n 0, 1), (.iload 4, 2), (.iconst 1, 1), (.iadd, 1), (.iaload, 1), (.aload_n 0, 1), (.iload 4, 2), (.iconst 2, 1), (.iadd, 1)] := Jvm.Free.DS.facts 1946 _ (by decide +kernel) (by decide +kernel)
theorem d_Law_law_1946 : decode code 1946 = .ok (.aload_n 1, 1) := F_Law_law_1946.1
theorem d_Law_law_1947 : decode code 1947 = .ok (.aload_n 0, 1) := F_Law_law_1946.2.1
theorem d_Law_law_1948 : decode code 1948 = .ok (.iload 4, 2) := F_Law_law_1946.2.2.1
theorem d_Law_law_1950 : decode code 1950 = .ok (.iconst 1, 1) := F_Law_law_1946.2.2.2.1
theorem d_Law_law_1951 : decode code 1951 = .ok (.iadd, 1) := F_Law_law_1946.2.2.2.2.1
theorem d_Law_law_1952 : decode code 1952 = .ok (.iaload, 1) := F_Law_law_1946.2.2.2.2.2.1
theorem d_Law_law_1953 : decode code 1953 = .ok (.aload_n 0, 1) := F_Law_law_1946.2.2.2.2.2.2.1
theorem d_Law_law_1954 : decode code 1954 = .ok (.iload 4, 2) := F_Law_law_1946.2.2.2.2.2.2.2.1
theorem d_Law_law_1956 : decode code 1956 = .ok (.iconst 2, 1) := F_Law_law_1946.2.2.2.2.2.2.2.2.1
theorem d_Law_law_1957 : decode code 1957 = .ok (.iadd, 1) := F_Law_law_1946.2.2.2.2.2.2.2.2.2.1
theorem d_Law_law_1958 : decode code 1958 = .ok (.iaload, 1) := F_Law_law_1946.2.2.2.2.2.2.2.2.2.2.1
theorem d_Law_law_1959 : decode code 1959 = .ok (.aload_n 0, 1) := F_Law_law_1946.2.2.2.2.2.2.2.2.2.2.2.1
theorem d_Law_law_1960 : decode code 1960 = .ok (.iload 4, 2) := F_Law_law_1946.2.2.2.2.2.2.2.2.2.2.2.2.1
theorem d_Law_law_1962 : decode code 1962 = .ok (.iconst 3, 1) := F_Law_law_1946.2.2.2.2.2.2.2.2.2.2.2.2.2.1
theorem d_Law_law_1963 : decode code 1963 = .ok (.iadd, 1) := F_Law_law_1946.2.2.2.2.2.2.2.2.2.2.2.2.2.2.1
theorem d_Law_law_1964 : decode code 1964 = .ok (.iaload, 1) := F_Law_law_1946.2.2.2.2.2.2.2.2.2.2.2.2.2.2.2.1
theorem d_Law_law_1965 : decode code 1965 = .ok (.aload_n 0, 1) := F_Law_law_1946.2.2.2.2.2.2.2.2.2.2.2.2.2.2.2.2.1
theorem d_Law_law_1966 : decode code 1966 = .ok (.iload 4, 2) := F_Law_law_1946.2.2.2.2.2.2.2.2.2.2.2.2.2.2.2.2.2.1
theorem d_Law_law_1968 : decode code 1968 = .ok (.iconst 4, 1) := F_Law_law_1946.2.2.2.2.2.2.2.2.2.2.2.2.2.2.2.2.2.2.1
theorem d_Law_law_1969 : decode code 1969 = .ok (.iadd, 1) := F_Law_law_1946.2.2.2.2.2.2.2.2.2.2.2.2.2.2.2.2.2.2.2.1
theorem d_Law_law_1970 : decode code 1970 = .ok (.iaload, 1) := F_Law_law_1946.2.2.2.2.2.2.2.2.2.2.2.2.2.2.2.2.2.2.2.2.1
theorem d_Law_law_1971 : decode code 1971 = .ok (.invokevirtual 186, 3) := F_Law_law_1946.2.2.2.2.2.2.2.2.2.2.2.2.2.2.2.2.2.2.2.2.2.1
theorem d_Law_law_1974 : decode code 1974 = .ok (.aload_n 2, 1) := F_Law_law_1946.2.2.2.2.2.2.2.2.2.2.2.2.2.2.2.2.2.2.2.2.2.2.1
theorem d_Law_law_1975 : decode code 1975 = .ok (.aload_n 0, 1) := F_Law_law_1946.2.2.2.2.2.2.2.2.2.2.2.2.2.2.2.2.2.2.2.2.2.2.2.1
theorem d_Law_law_1976 : decode code 1976 = .ok (.iload 4, 2) := F_Law_law_1946.2.2.2.2.2.2.2.2.2.2.2.2.2.2.2.2.2.2.2.2.2.2.2.2.1
theorem d_Law_law_1978 : decode code 1978 = .ok (.iconst 1, 1) := F_Law_law_1946.2.2.2.2.2.2.2.2.2.2.2.2.2.2.2.2.2.2.2.2.2.2.2.2.2.1
theorem d_Law_law_1979 : decode code 1979 = .ok (.iadd, 1) := F_Law_law_1946.2.2.2.2.2.2.2.2.2.2.2.2.2.2.2.2.2.2.2.2.2.2.2.2.2.2.1
theorem d_Law_law_1980 : decode code 1980 = .ok (.iaload, 1) := F_Law_law_1946.2.2.2.2.2.2.2.2.2.2.2.2.2.2.2.2.2.2.2.2.2.2.2.2.2.2.2.1
theorem d_Law_law_1981 : decode code 1981 = .ok (.aload_n 0, 1) := F_Law_law_1946.2.2.2.2.2.2.2.2.2.2.2.2.2.2.2.2.2.2.2.2.2.2.2.2.2.2.2.2.1
theorem d_Law_law_1982 : decode code 1982 = .ok (.iload 4, 2) := F_Law_law_1946.2.2.2.2.2.2.2.2.2.2.2.2.2.2.2.2.2.2.2.2.2.2.2.2.2.2.2.2.2.1
theorem d_Law_law_1984 : decode code 1984 = .ok (.iconst 2, 1) := F_Law_law_1946.2.2.2.2.2.2.2.2.2.2.2.2.2.2.2.2.2.2.2.2.2.2.2.2.2.2.2.2.2.2.1
theorem d_Law_law_1985 : decode code 1985 = .ok (.iadd, 1) := F_Law_law_1946.2.2.2.2.2.2.2.2.2.2.2.2.2.2.2.2.2.2.2.2.2.2.2.2.2.2.2.2.2.2.2.1
theorem F_Law_law_1986 : Jvm.Free.DS.Facts code 1986 [(.iaload, 1), (.aload_n 0, 1), (.iload 4, 2), (.iconst 3, 1), (.iadd, 1), (.iaload, 1), (.aload_n 0, 1), (.iload 4, 2), (.iconst 4, 1), (.iadd, 1), (.iaload, 1), (.invokevirtual 190, 3), (.lcmp, 1), (.ifCond .eq (1368), 3)] := Jvm.Free.DS.facts 1986 _ (by decide +kernel) (by decide +kernel)
theorem d_Law_law_1986 : decode code 1986 = .ok (.iaload, 1) := F_Law_law_1986.1
theorem d_Law_law_1987 : decode code 1987 = .ok (.aload_n 0, 1) := F_Law_law_1986.2.1
theorem d_Law_law_1988 : decode code 1988 = .ok (.iload 4, 2) := F_Law_law_1986.2.2.1
theorem d_Law_law_1990 : decode code 1990 = .ok (.iconst 3, 1) := F_Law_law_1986.2.2.2.1
theorem d_Law_law_1991 : decode code 1991 = .ok (.iadd, 1) := F_Law_law_1986.2.2.2.2.1
theorem d_Law_law_1992 : decode code 1992 = .ok (.iaload, 1) := F_Law_law_1986.2.2.2.2.2.1
theorem d_Law_law_1993 : decode code 1993 = .ok (.aload_n 0, 1) := F_Law_law_1986.2.2.2.2.2.2.1
theorem d_Law_law_1994 : decode code 1994 = .ok (.iload 4, 2) := F_Law_law_1986.2.2.2.2.2.2.2.1
theorem d_Law_law_1996 : decode code 1996 = .ok (.iconst 4, 1) := F_Law_law_1986.2.2.2.2.2.2.2.2.1
theorem d_Law_law_1997 : decode code 1997 = .ok (.iadd, 1) := F_Law_law_1986.2.2.2.2.2.2.2.2.2.1
theorem d_Law_law_1998 : decode code 1998 = .ok (.iaload, 1) := F_Law_law_1986.2.2.2.2.2.2.2.2.2.2.1
theorem d_Law_law_1999 : decode code 1999 = .ok (.invokevirtual 190, 3) := F_Law_law_1986.2.2.2.2.2.2.2.2.2.2.2.1
theorem d_Law_law_2002 : decode code 2002 = .ok (.lcmp, 1) := F_Law_law_1986.2.2.2.2.2.2.2.2.2.2.2.2.1
theorem d_Law_law_2003 : decode code 2003 = .ok (.ifCond .eq (1368), 3) := F_Law_law_1986.2.2.2.2.2.2.2.2.2.2.2.2.2.1
theorem F_Law_law_2008 : Jvm.Free.DS.Facts code 2008 [(.aload_n 1, 1), (.aload_n 0, 1), (.iload 4, 2), (.iconst 1, 1), (.iadd, 1), (.iaload, 1), (.aload_n 0, 1), (.iload 4, 2), (.iconst 2, 1), (.iadd, 1), (.iaload, 1), (.aload_n 0, 1), (.iload 4, 2), (.iconst 3, 1), (.iadd, 1), (.iaload, 1), (.aload_n 0, 1), (.iload 4, 2), (.iconst 4, 1), (.iadd, 1), (.iaload, 1), (.invokevirtual 191, 3), (.aload_n 2, 1), (.aload_n 0, 1), (.iload 4, 2), (.iconst 1, 1), (.iadd, 1), (.iaload, 1), (.aload_n 0, 1), (.iload 4, 2), (.iconst 2, 1), (.iadd, 1)] := Jvm.Free.DS.facts 2008 _ (by decide +kernel) (by decide +kernel)
theorem d_Law_law_2008 : decode code 2008 = .ok (.aload_n 1, 1) := F_Law_law_2008.1
theorem d_Law_law_2009 : decode code 2009 = .ok (.aload_n 0, 1) := F_Law_law_2008.2.1
theorem d_Law_law_2010 : decode code 2010 = .ok (.iload 4, 2) := F_Law_law_2008.2.2.1
theorem d_Law_law_2012 : decode code 2012 = .ok (.iconst 1, 1) := F_Law_law_2008.2.2.2.1
theorem d_Law_law_2013 : decode code 2013 = .ok (.iadd, 1) := F_Law_law_2008.2.2.2.2.1
theorem d_Law_law_2014 : decode code 2014 = .ok (.iaload, 1) := F_Law_law_2008.2.2.2.2.2.1
theorem d_Law_law_2015 : decode code 2015 = .ok (.aload_n 0, 1) := F_Law_law_2008.2.2.2.2.2.2.1
theorem d_Law_law_2016 : decode code 2016 = .ok (.iload 4, 2) := F_Law_law_2008.2.2.2.2.2.2.2.1
theorem d_Law_law_2018 : decode code 2018 = .ok (.iconst 2, 1) := F_Law_law_2008.2.2.2.2.2.2.2.2.1
theorem d_Law_law_2019 : decode code 2019 = .ok (.iadd, 1) := F_Law_law_2008.2.2.2.2.2.2.2.2.2.1
theorem d_Law_law_2020 : decode code 2020 = .ok (.iaload, 1) := F_Law_law_2008.2.2.2.2.2.2.2.2.2.2.1
theorem d_Law_law_2021 : decode code 2021 = .ok (.aload_n 0, 1) := F_Law_law_2008.2.2.2.2.2.2.2.2.2.2.2.1
theorem d_Law_law_2022 : decode code 2022 = .ok (.iload 4, 2) := F_Law_law_2008.2.2.2.2.2.2.2.2.2.2.2.2.1
theorem d_Law_law_2024 : decode code 2024 = .ok (.iconst 3, 1) := F_Law_law_2008.2.2.2.2.2.2.2.2.2.2.2.2.2.1
theorem d_Law_law_2025 : decode code 2025 = .ok (.iadd, 1) := F_Law_law_2008.2.2.2.2.2.2.2.2.2.2.2.2.2.2.1
theorem d_Law_law_2026 : decode code 2026 = .ok (.iaload, 1) := F_Law_law_2008.2.2.2.2.2.2.2.2.2.2.2.2.2.2.2.1
theorem d_Law_law_2027 : decode code 2027 = .ok (.aload_n 0, 1) := F_Law_law_2008.2.2.2.2.2.2.2.2.2.2.2.2.2.2.2.2.1
theorem d_Law_law_2028 : decode code 2028 = .ok (.iload 4, 2) := F_Law_law_2008.2.2.2.2.2.2.2.2.2.2.2.2.2.2.2.2.2.1
theorem d_Law_law_2030 : decode code 2030 = .ok (.iconst 4, 1) := F_Law_law_2008.2.2.2.2.2.2.2.2.2.2.2.2.2.2.2.2.2.2.1
theorem d_Law_law_2031 : decode code 2031 = .ok (.iadd, 1) := F_Law_law_2008.2.2.2.2.2.2.2.2.2.2.2.2.2.2.2.2.2.2.2.1
theorem d_Law_law_2032 : decode code 2032 = .ok (.iaload, 1) := F_Law_law_2008.2.2.2.2.2.2.2.2.2.2.2.2.2.2.2.2.2.2.2.2.1
theorem d_Law_law_2033 : decode code 2033 = .ok (.invokevirtual 191, 3) := F_Law_law_2008.2.2.2.2.2.2.2.2.2.2.2.2.2.2.2.2.2.2.2.2.2.1
theorem d_Law_law_2036 : decode code 2036 = .ok (.aload_n 2, 1) := F_Law_law_2008.2.2.2.2.2.2.2.2.2.2.2.2.2.2.2.2.2.2.2.2.2.2.1
theorem d_Law_law_2037 : decode code 2037 = .ok (.aload_n 0, 1) := F_Law_law_2008.2.2.2.2.2.2.2.2.2.2.2.2.2.2.2.2.2.2.2.2.2.2.2.1
theorem d_Law_law_2038 : decode code 2038 = .ok (.iload 4, 2) := F_Law_law_2008.2.2.2.2.2.2.2.2.2.2.2.2.2.2.2.2.2.2.2.2.2.2.2.2.1
theorem d_Law_law_2040 : decode code 2040 = .ok (.iconst 1, 1) := F_Law_law_2008.2.2.2.2.2.2.2.2.2.2.2.2.2.2.2.2.2.2.2.2.2.2.2.2.2.1
theorem d_Law_law_2041 : decode code 2041 = .ok (.iadd, 1) := F_Law_law_2008.2.2.2.2.2.2.2.2.2.2.2.2.2.2.2.2.2.2.2.2.2.2.2.2.2.2.1
theorem d_Law_law_2042 : decode code 2042 = .ok (.iaload, 1) := F_Law_law_2008.2.2.2.2.2.2.2.2.2.2.2.2.2.2.2.2.2.2.2.2.2.2.2.2.2.2.2.1
theorem d_Law_law_2043 : decode code 2043 = .ok (.aload_n 0, 1) := F_Law_law_2008.2.2.2.2.2.2.2.2.2.2.2.2.2.2.2.2.2.2.2.2.2.2.2.2.2.2.2.2.1
theorem d_Law_law_2044 : decode code 2044 = .ok (.iload 4, 2) := F_Law_law_2008.2.2.2.2.2.2.2.2.2.2.2.2.2.2.2.2.2.2.2.2.2.2.2.2.2.2.2.2.2.1
theorem d_Law_law_2046 : decode code 2046 = .ok (.iconst 2, 1) := F_Law_law_2008.2.2.2.2.2.2.2.2.2.2.2.2.2.2.2.2.2.2.2.2.2.2.2.2.2.2.2.2.2.2.1
theorem d_Law_law_2047 : decode code 2047 = .ok (.iadd, 1) := F_Law_law_2008.2.2.2.2.2.2.2.2.2.2.2.2.2.2.2.2.2.2.2.2.2.2.2.2.2.2.2.2.2.2.2.1
theorem F_Law_law_2048 : Jvm.Free.DS.Facts code 2048 [(.iaload, 1), (.aload_n 0, 1), (.iload 4, 2), (.iconst 3, 1), (.iadd, 1), (.iaload, 1), (.aload_n 0, 1), (.iload 4, 2), (.iconst 4, 1), (.iadd, 1), (.iaload, 1), (.invokevirtual 194, 3), (.lcmp, 1), (.ifCond .eq (1306), 3)] := Jvm.Free.DS.facts 2048 _ (by decide +kernel) (by decide +kernel)
theorem d_Law_law_2048 : decode code 2048 = .ok (.iaload, 1) := F_Law_law_2048.1
theorem d_Law_law_2049 : decode code 2049 = .ok (.aload_n 0, 1) := F_Law_law_2048.2.1
theorem d_Law_law_2050 : decode code 2050 = .ok (.iload 4, 2) := F_Law_law_2048.2.2.1
theorem d_Law_law_2052 : decode code 2052 = .ok (.iconst 3, 1) := F_Law_law_2048.2.2.2.1
theorem d_Law_law_2053 : decode code 2053 = .ok (.iadd, 1) := F_Law_law_2048.2.2.2.2.1
theorem d_Law_law_2054 : decode code 2054 = .ok (.iaload, 1) := F_Law_law_2048.2.2.2.2.2.1
theorem d_Law_law_2055 : decode code 2055 = .ok (.aload_n 0, 1) := F_Law_law_2048.2.2.2.2.2.2.1
theorem d_Law_law_2056 : decode code 2056 = .ok (.iload 4, 2) := F_Law_law_2048.2.2.2.2.2.2.2.1
theorem d_Law_law_2058 : decode code 2058 = .ok (.iconst 4, 1) := F_Law_law_2048.2.2.2.2.2.2.2.2.1
theorem d_Law_law_2059 : decode code 2059 = .ok (.iadd, 1) := F_Law_law_2048.2.2.2.2.2.2.2.2.2.1
theorem d_Law_law_2060 : decode code 2060 = .ok (.iaload, 1) := F_Law_law_2048.2.2.2.2.2.2.2.2.2.2.1
theorem d_Law_law_2061 : decode code 2061 = .ok (.invokevirtual 194, 3) := F_Law_law_2048.2.2.2.2.2.2.2.2.2.2.2.1
theorem d_Law_law_2064 : decode code 2064 = .ok (.lcmp, 1) := F_Law_law_2048.2.2.2.2.2.2.2.2.2.2.2.2.1
theorem d_Law_law_2065 : decode code 2065 = .ok (.ifCond .eq (1306), 3) := F_Law_law_2048.2.2.2.2.2.2.2.2.2.2.2.2.2.1
theorem F_Law_law_2070 : Jvm.Free.DS.Facts code 2070 [(.aload_n 1, 1), (.aload_n 0, 1), (.iload 4, 2), (.iconst 1, 1), (.iadd, 1), (.iaload, 1), (.aload_n 0, 1), (.iload 4, 2), (.iconst 2, 1), (.iadd, 1), (.iaload, 1), (.invokevirtual 195, 3), (.aload_n 2, 1), (.aload_n 0, 1), (.iload 4, 2), (.iconst 1, 1), (.iadd, 1), (.iaload, 1), (.aload_n 0, 1), (.iload 4, 2), (.iconst 2, 1), (.iadd, 1), (.iaload, 1), (.invokevirtual 198, 3), (.if_icmp .eq (1269), 3)] := Jvm.Free.DS.facts 2070 _ (by decide +kernel) (by decide +kernel)
theorem d_Law_law_2070 : decode code 2070 = .ok (.aload_n 1, 1) := F_Law_law_2070.1
theorem d_Law_law_2071 : decode code 2071 = .ok (.aload_n 0, 1) := F_Law_law_2070.2.1
theorem d_Law_law_2072 : decode code 2072 = .ok (.iload 4, 2) := F_Law_law_2070.2.2.1
theorem d_Law_law_2074 : decode code 2074 = .ok (.iconst 1, 1) := F_Law_law_2070.2.2.2.1
theorem d_Law_law_2075 : decode code 2075 = .ok (.iadd, 1) := F_Law_law_2070.2.2.2.2.1
theorem d_Law_law_2076 : decode code 2076 = .ok (.iaload, 1) := F_Law_law_2070.2.2.2.2.2.1
theorem d_Law_law_2077 : decode code 2077 = .ok (.aload_n 0, 1) := F_Law_law_2070.2.2.2.2.2.2.1
theorem d_Law_law_2078 : decode code 2078 = .ok (.iload 4, 2) := F_Law_law_2070.2.2.2.2.2.2.2.1
theorem d_Law_law_2080 : decode code 2080 = .ok (.iconst 2, 1) := F_Law_law_2070.2.2.2.2.2.2.2.2.1
theorem d_Law_law_2081 : decode code 2081 = .ok (.iadd, 1) := F_Law_law_2070.2.2.2.2.2.2.2.2.2.1
theorem d_Law_law_2082 : decode code 2082 = .ok (.iaload, 1) := F_Law_law_2070.2.2.2.2.2.2.2.2.2.2.1
theorem d_Law_law_2083 : decode code 2083 = .ok (.invokevirtual 195, 3) := F_Law_law_2070.2.2.2.2.2.2.2.2.2.2.2.1
theorem d_Law_law_2086 : decode code 2086 = .ok (.aload_n 2, 1) := F_Law_law_2070.2.2.2.2.2.2.2.2.2.2.2.2.1
theorem d_Law_law_2087 : decode code 2087 = .ok (.aload_n 0, 1) := F_Law_law_2070.2.2.2.2.2.2.2.2.2.2.2.2.2.1
theorem d_Law_law_2088 : decode code 2088 = .ok (.iload 4, 2) := F_Law_law_2070.2.2.2.2.2.2.2.2.2.2.2.2.2.2.1
theorem d_Law_law_2090 : decode code 2090 = .ok (.iconst 1, 1) := F_Law_law_2070.2.2.2.2.2.2.2.2.2.2.2.2.2.2.2.1
theorem d_Law_law_2091 : decode code 2091 = .ok (.iadd, 1) := F_Law_law_2070.2.2.2.2.2.2.2.2.2.2.2.2.2.2.2.2.1
theorem d_Law_law_2092 : decode code 2092 = .ok (.iaload, 1) := F_Law_law_2070.2.2.2.2.2.2.2.2.2.2.2.2.2.2.2.2.2.1
theorem d_Law_law_2093 : decode code 2093 = .ok (.aload_n 0, 1) := F_Law_law_2070.2.2.2.2.2.2.2.2.2.2.2.2.2.2.2.2.2.2.1
theorem d_Law_law_2094 : decode code 2094 = .ok (.iload 4, 2) := F_Law_law_2070.2.2.2.2.2.2.2.2.2.2.2.2.2.2.2.2.2.2.2.1
theorem d_Law_law_2096 : decode code 2096 = .ok (.iconst 2, 1) := F_Law_law_2070.2.2.2.2.2.2.2.2.2.2.2.2.2.2.2.2.2.2.2.2.1
theorem d_Law_law_2097 : decode code 2097 = .ok (.iadd, 1) := F_Law_law_2070.2.2.2.2.2.2.2.2.2.2.2.2.2.2.2.2.2.2.2.2.2.1
theorem d_Law_law_2098 : decode code 2098 = .ok (.iaload, 1) := F_Law_law_2070.2.2.2.2.2.2.2.2.2.2.2.2.2.2.2.2.2.2.2.2.2.2.1
theorem d_Law_law_2099 : decode code 2099 = .ok (.invokevirtual 198, 3) := F_Law_law_2070.2.2.2.2.2.2.2.2.2.2.2.2.2.2.2.2.2.2.2.2.2.2.2.1
theorem d_Law_law_2102 : decode code 2102 = .ok (.if_icmp .eq (1269), 3) := F_Law_law_2070.2.2.2.2.2.2.2.2.2.2.2.2.2.2.2.2.2.2.2.2.2.2.2.2.1
theorem F_Law_law_2107 : Jvm.Free.DS.Facts code 2107 [(.aload_n 1, 1), (.aload_n 0, 1), (.iload 4, 2), (.iconst 1, 1), (.iadd, 1), (.iaload, 1), (.aload_n 0, 1), (.iload 4, 2), (.iconst 2, 1), (.iadd, 1), (.iaload, 1), (.invokevirtual 199, 3), (.aload_n 2, 1), (.aload_n 0, 1), (.iload 4, 2), (.iconst 1, 1), (.iadd, 1), (.iaload, 1), (.aload_n 0, 1), (.iload 4, 2), (.iconst 2, 1), (.iadd, 1), (.iaload, 1), (.invokevirtual 202, 3), (.if_icmp .eq (1232), 3)] := Jvm.Free.DS.facts 2107 _ (by decide +kernel) (by decide +kernel)
theorem d_Law_law_2107 : decode code 2107 = .ok (.aload_n 1, 1) := F_Law_law_2107.1
theorem d_Law_law_2108 : decode code 2108 = .ok (.aload_n 0, 1) := F_Law_law_2107.2.1
theorem d_Law_law_2109 : decode code 2109 = .ok (.iload 4, 2) := F_Law_law_2107.2.2.1
theorem d_Law_law_2111 : decode code 2111 = .ok (.iconst 1, 1) := F_Law_law_2107.2.2.2.1
theorem d_Law_law_2112 : decode code 2112 = .ok (.iadd, 1) := F_Law_law_2107.2.2.2.2.1
theorem d_Law_law_2113 : decode code 2113 = .ok (.iaload, 1) := F_Law_law_2107.2.2.2.2.2.1
theorem d_Law_law_2114 : decode code 2114 = .ok (.aload_n 0, 1) := F_Law_law_2107.2.2.2.2.2.2.1
theorem d_Law_law_2115 : decode code 2115 = .ok (.iload 4, 2) := F_Law_law_2107.2.2.2.2.2.2.2.1
theorem d_Law_law_2117 : decode code 2117 = .ok (.iconst 2, 1) := F_Law_law_2107.2.2.2.2.2.2.2.2.1
theorem d_Law_law_2118 : decode code 2118 = .ok (.iadd, 1) := F_Law_law_2107.2.2.2.2.2.2.2.2.2.1
theorem d_Law_law_2119 : decode code 2119 = .ok (.iaload, 1) := F_Law_law_2107.2.2.2.2.2.2.2.2.2.2.1
theorem d_Law_law_2120 : decode code 2120 = .ok (.invokevirtual 199, 3) := F_Law_law_2107.2.2.2.2.2.2.2.2.2.2.2.1
theorem d_Law_law_2123 : decode code 2123 = .ok (.aload_n 2, 1) := F_Law_law_2107.2.2.2.2.2.2.2.2.2.2.2.2.1
theorem d_Law_law_2124 : decode code 2124 = .ok (.aload_n 0, 1) := F_Law_law_2107.2.2.2.2.2.2.2.2.2.2.2.2.2.1
theorem d_Law_law_2125 : decode code 2125 = .ok (.iload 4, 2) := F_Law_law_2107.2.2.2.2.2.2.2.2.2.2.2.2.2.2.1
theorem d_Law_law_2127 : decode code 2127 = .ok (.iconst 1, 1) := F_Law_law_2107.2.2.2.2.2.2.2.2.2.2.2.2.2.2.2.1
theorem d_Law_law_2128 : decode code 2128 = .ok (.iadd, 1) := F_Law_law_2107.2.2.2.2.2.2.2.2.2.2.2.2.2.2.2.2.1
theorem d_Law_law_2129 : decode code 2129 = .ok (.iaload, 1) := F_Law_law_2107.2.2.2.2.2.2.2.2.2.2.2.2.2.2.2.2.2.1
theorem d_Law_law_2130 : decode code 2130 = .ok (.aload_n 0, 1) := F_Law_law_2107.2.2.2.2.2.2.2.2.2.2.2.2.2.2.2.2.2.2.1
theorem d_Law_law_2131 : decode code 2131 = .ok (.iload 4, 2) := F_Law_law_2107.2.2.2.2.2.2.2.2.2.2.2.2.2.2.2.2.2.2.2.1
theorem d_Law_law_2133 : decode code 2133 = .ok (.iconst 2, 1) := F_Law_law_2107.2.2.2.2.2.2.2.2.2.2.2.2.2.2.2.2.2.2.2.2.1
theorem d_Law_law_2134 : decode code 2134 = .ok (.iadd, 1) := F_Law_law_2107.2.2.2.2.2.2.2.2.2.2.2.2.2.2.2.2.2.2.2.2.2.1
theorem d_Law_law_2135 : decode code 2135 = .ok (.iaload, 1) := F_Law_law_2107.2.2.2.2.2.2.2.2.2.2.2.2.2.2.2.2.2.2.2.2.2.2.1
theorem d_Law_law_2136 : decode code 2136 = .ok (.invokevirtual 202, 3) := F_Law_law_2107.2.2.2.2.2.2.2.2.2.2.2.2.2.2.2.2.2.2.2.2.2.2.2.1
theorem d_Law_law_2139 : decode code 2139 = .ok (.if_icmp .eq (1232), 3) := F_Law_law_2107.2.2.2.2.2.2.2.2.2.2.2.2.2.2.2.2.2.2.2.2.2.2.2.2.1
theorem F_Law_law_2144 : Jvm.Free.DS.Facts code 2144 [(.aload_n 1, 1), (.aload_n 0, 1), (.iload 4, 2), (.iconst 1, 1), (.iadd, 1), (.iaload, 1), (.aload_n 0, 1), (.iload 4, 2), (.iconst 2, 1), (.iadd, 1), (.iaload, 1), (.invokevirtual 203, 3), (.aload_n 2, 1), (.aload_n 0, 1), (.iload 4, 2), (.iconst 1, 1), (.iadd, 1), (.iaload, 1), (.aload_n 0, 1), (.iload 4, 2), (.iconst 2, 1), (.iadd, 1), (.iaload, 1), (.invokevirtual 206, 3), (.if_icmp .eq (1195), 3)] := Jvm.Free.DS.facts 2144 _ (by decide +kernel) (by decide +kernel)
theorem d_Law_law_2144 : decode code 2144 = .ok (.aload_n 1, 1) := F_Law_law_2144.1
theorem d_Law_law_2145 : decode code 2145 = .ok (.aload_n 0, 1) := F_Law_law_2144.2.1
theorem d_Law_law_2146 : decode code 2146 = .ok (.iload 4, 2) := F_Law_law_2144.2.2.1
theorem d_Law_law_2148 : decode code 2148 = .ok (.iconst 1, 1) := F_Law_law_2144.2.2.2.1
theorem d_Law_law_2149 : decode code 2149 = .ok (.iadd, 1) := F_Law_law_2144.2.2.2.2.1
theorem d_Law_law_2150 : decode code 2150 = .ok (.iaload, 1) := F_Law_law_2144.2.2.2.2.2.1
theorem d_Law_law_2151 : decode code 2151 = .ok (.aload_n 0, 1) := F_Law_law_2144.2.2.2.2.2.2.1
theorem d_Law_law_2152 : decode code 2152 = .ok (.iload 4, 2) := F_Law_law_2144.2.2.2.2.2.2.2.1
theorem d_Law_law_2154 : decode code 2154 = .ok (.iconst 2, 1) := F_Law_law_2144.2.2.2.2.2.2.2.2.1
theorem d_Law_law_2155 : decode code 2155 = .ok (.iadd, 1) := F_Law_law_2144.2.2.2.2.2.2.2.2.2.1
theorem d_Law_law_2156 : decode code 2156 = .ok (.iaload, 1) := F_Law_law_2144.2.2.2.2.2.2.2.2.2.2.1
theorem d_Law_law_2157 : decode code 2157 = .ok (.invokevirtual 203, 3) := F_Law_law_2144.2.2.2.2.2.2.2.2.2.2.2.1
theorem d_Law_law_2160 : decode code 2160 = .ok (.aload_n 2, 1) := F_Law_law_2144.2.2.2.2.2.2.2.2.2.2.2.2.1
theorem d_Law_law_2161 : decode code 2161 = .ok (.aload_n 0, 1) := F_Law_law_2144.2.2.2.2.2.2.2.2.2.2.2.2.2.1
theorem d_Law_law_2162 : decode code 2162 = .ok (.iload 4, 2) := F_Law_law_2144.2.2.2.2.2.2.2.2.2.2.2.2.2.2.1
theorem d_Law_law_2164 : decode code 2164 = .ok (.iconst 1, 1) := F_Law_law_2144.2.2.2.2.2.2.2.2.2.2.2.2.2.2.2.1
theorem d_Law_law_2165 : decode code 2165 = .ok (.iadd, 1) := F_Law_law_2144.2.2.2.2.2.2.2.2.2.2.2.2.2.2.2.2.1
theorem d_Law_law_2166 : decode code 2166 = .ok (.iaload, 1) := F_Law_law_2144.2.2.2.2.2.2.2.2.2.2.2.2.2.2.2.2.2.1
theorem d_Law_law_2167 : decode code 2167 = .ok (.aload_n 0, 1) := F_Law_law_2144.2.2.2.2.2.2.2.2.2.2.2.2.2.2.2.2.2.2.1
theorem d_Law_law_2168 : decode code 2168 = .ok (.iload 4, 2) := F_Law_law_2144.2.2.2.2.2.2.2.2.2.2.2.2.2.2.2.2.2.2.2.1
theorem d_Law_law_2170 : decode code 2170 = .ok (.iconst 2, 1) := F_Law_law_2144.2.2.2.2.2.2.2.2.2.2.2.2.2.2.2.2.2.2.2.2.1
theorem d_Law_law_2171 : decode code 2171 = .ok (.iadd, 1) := F_Law_law_2144.2.2.2.2.2.2.2.2.2.2.2.2.2.2.2.2.2.2.2.2.2.1
theorem d_Law_law_2172 : decode code 2172 = .ok (.iaload, 1) := F_Law_law_2144.2.2.2.2.2.2.2.2.2.2.2.2.2.2.2.2.2.2.2.2.2.2.1
theorem d_Law_law_2173 : decode code 2173 = .ok (.invokevirtual 206, 3) := F_Law_law_2144.2.2.2.2.2.2.2.2.2.2.2.2.2.2.2.2.2.2.2.2.2.2.2.1
theorem d_Law_law_2176 : decode code 2176 = .ok (.if_icmp .eq (1195), 3) := F_Law_law_2144.2.2.2.2.2.2.2.2.2.2.2.2.2.2.2.2.2.2.2.2.2.2.2.2.1
theorem F_Law_law_2181 : Jvm.Free.DS.Facts code 2181 [(.aload_n 1, 1), (.aload_n 0, 1), (.iload 4, 2), (.iconst 1, 1), (.iadd, 1), (.iaload, 1), (.aload_n 0, 1), (.iload 4, 2), (.iconst 2, 1), (.iadd, 1), (.iaload, 1), (.invokevirtual 207, 3), (.aload_n 2, 1), (.aload_n 0, 1), (.iload 4, 2), (.iconst 1, 1), (.iadd, 1), (.iaload, 1), (.aload_n 0, 1), (.iload 4, 2), (.iconst 2, 1), (.iadd, 1), (.iaload, 1), (.invokevirtual 210, 3), (.if_icmp .eq (1158), 3)] := Jvm.Free.DS.facts 2181 _ (by decide +kernel) (by decide +kernel)
theorem d_Law_law_2181 : decode code 2181 = .ok (.aload_n 1, 1) := F_Law_law_2181.1
theorem d_Law_law_2182 : decode code 2182 = .ok (.aload_n 0, 1) := F_Law_law_2181.2.1
theorem d_Law_law_2183 : decode code 2183 = .ok (.iload 4, 2) := F_Law_law_2181.2.2.1
theorem d_Law_law_2185 : decode code 2185 = .ok (.iconst 1, 1) := F_Law_law_2181.2.2.2.1
theorem d_Law_law_2186 : decode code 2186 = .ok (.iadd, 1) := F_Law_law_2181.2.2.2.2.1
theorem d_Law_law_2187 : decode code 2187 = .ok (.iaload, 1) := F_Law_law_2181.2.2.2.2.2.1
theorem d_Law_law_2188 : decode code 2188 = .ok (.aload_n 0, 1) := F_Law_law_2181.2.2.2.2.2.2.1
theorem d_Law_law_2189 : decode code 2189 = .ok (.iload 4, 2) := F_Law_law_2181.2.2.2.2.2.2.2.1
theorem d_Law_law_2191 : decode code 2191 = .ok (.iconst 2, 1) := F_Law_law_2181.2.2.2.2.2.2.2.2.1
theorem d_Law_law_2192 : decode code 2192 = .ok (.iadd, 1) := F_Law_law_2181.2.2.2.2.2.2.2.2.2.1
theorem d_Law_law_2193 : decode code 2193 = .ok (.iaload, 1) := F_Law_law_2181.2.2.2.2.2.2.2.2.2.2.1
theorem d_Law_law_2194 : decode code 2194 = .ok (.invokevirtual 207, 3) := F_Law_law_2181.2.2.2.2.2.2.2.2.2.2.2.1
theorem d_Law_law_2197 : decode code 2197 = .ok (.aload_n 2, 1) := F_Law_law_2181.2.2.2.2.2.2.2.2.2.2.2.2.1
theorem d_Law_law_2198 : decode code 2198 = .ok (.aload_n 0, 1) := F_Law_law_2181.2.2.2.2.2.2.2.2.2.2.2.2.2.1
theorem d_Law_law_2199 : decode code 2199 = .ok (.iload 4, 2) := F_Law_law_2181.2.2.2.2.2.2.2.2.2.2.2.2.2.2.1
theorem d_Law_law_2201 : decode code 2201 = .ok (.iconst 1, 1) := F_Law_law_2181.2.2.2.2.2.2.2.2.2.2.2.2.2.2.2.1
theorem d_Law_law_2202 : decode code 2202 = .ok (.iadd, 1) := F_Law_law_2181.2.2.2.2.2.2.2.2.2.2.2.2.2.2.2.2.1
theorem d_Law_law_2203 : decode code 2203 = .ok (.iaload, 1) := F_Law_law_2181.2.2.2.2.2.2.2.2.2.2.2.2.2.2.2.2.2.1
theorem d_Law_law_2204 : decode code 2204 = .ok (.aload_n 0, 1) := F_Law_law_2181.2.2.2.2.2.2.2.2.2.2.2.2.2.2.2.2.2.2.1
theorem d_Law_law_2205 : decode code 2205 = .ok (.iload 4, 2) := F_Law_law_2181.2.2.2.2.2.2.2.2.2.2.2.2.2.2.2.2.2.2.2.1
theorem d_Law_law_2207 : decode code 2207 = .ok (.iconst 2, 1) := F_Law_law_2181.2.2.2.2.2.2.2.2.2.2.2.2.2.2.2.2.2.2.2.2.1
theorem d_Law_law_2208 : decode code 2208 = .ok (.iadd, 1) := F_Law_law_2181.2.2.2.2.2.2.2.2.2.2.2.2.2.2.2.2.2.2.2.2.2.1
theorem d_Law_law_2209 : decode code 2209 = .ok (.iaload, 1) := F_Law_law_2181.2.2.2.2.2.2.2.2.2.2.2.2.2.2.2.2.2.2.2.2.2.2.1
theorem d_Law_law_2210 : decode code 2210 = .ok (.invokevirtual 210, 3) := F_Law_law_2181.2.2.2.2.2.2.2.2.2.2.2.2.2.2.2.2.2.2.2.2.2.2.2.1
theorem d_Law_law_2213 : decode code 2213 = .ok (.if_icmp .eq (1158), 3) := F_Law_law_2181.2.2.2.2.2.2.2.2.2.2.2.2.2.2.2.2.2.2.2.2.2.2.2.2.1
theorem F_Law_law_2218 : Jvm.Free.DS.Facts code 2218 [(.aload_n 1, 1), (.aload_n 0, 1), (.iload 4, 2), (.iconst 1, 1), (.iadd, 1), (.iaload, 1), (.aload_n 0, 1), (.iload 4, 2), (.iconst 2, 1), (.iadd, 1), (.iaload, 1), (.aload_n 0, 1), (.iload 4, 2), (.iconst 3, 1), (.iadd, 1), (.iaload, 1), (.invokevirtual 211, 3), (.aload_n 2, 1), (.aload_n 0, 1), (.iload 4, 2), (.iconst 1, 1), (.iadd, 1), (.iaload, 1), (.aload_n 0, 1), (.iload 4, 2), (.iconst 2, 1), (.iadd, 1), (.iaload, 1), (.aload_n 0, 1), (.iload 4, 2), (.iconst 3, 1), (.iadd, 1)] := Jvm.Free.DS.facts 2218 _ (by decide +kernel) (by decide +kernel)
theorem d_Law_law_2218 : decode code 2218 = .ok (.aload_n 1, 1) := F_Law_law_2218.1
theorem d_Law_law_2219 : decode code 2219 = .ok (.aload_n 0, 1) := F_Law_law_2218.2.1
theorem d_Law_law_2220 : decode code 2220 = .ok (.iload 4, 2) := F_Law_law_2218.2.2.1
theorem d_Law_law_2222 : decode code 2222 = .ok (.iconst 1, 1) := F_Law_law_2218.2.2.2.1
theorem d_Law_law_2223 : decode code 2223 = .ok (.iadd, 1) := F_Law_law_2218.2.2.2.2.1
theorem d_Law_law_2224 : decode code 2224 = .ok (.iaload, 1) := F_Law_law_2218.2.2.2.2.2.1
theorem d_Law_law_2225 : decode code 2225 = .ok (.aload_n 0, 1) := F_Law_law_2218.2.2.2.2.2.2.1
theorem d_Law_law_2226 : decode code 2226 = .ok (.iload 4, 2) := F_Law_law_2218.2.2.2.2.2.2.2.1
theorem d_Law_law_2228 : decode code 2228 = .ok (.iconst 2, 1) := F_Law_law_2218.2.2.2.2.2.2.2.2.1
theorem d_Law_law_2229 : decode code 2229 = .ok (.iadd, 1) := F_Law_law_2218.2.2.2.2.2.2.2.2.2.1
theorem d_Law_law_2230 : decode code 2230 = .ok (.iaload, 1) := F_Law_law_2218.2.2.2.2.2.2.2.2.2.2.1
theorem d_Law_law_2231 : decode code 2231 = .ok (.aload_n 0, 1) := F_Law_law_2218.2.2.2.2.2.2.2.2.2.2.2.1
theorem d_Law_law_2232 : decode code 2232 = .ok (.iload 4, 2) := F_Law_law_2218.2.2.2.2.2.2.2.2.2.2.2.2.1
theorem d_Law_law_2234 : decode code 2234 = .ok (.iconst 3, 1) := F_Law_law_2218.2.2.2.2.2.2.2.2.2.2.2.2.2.1
theorem d_Law_law_2235 : decode code 2235 = .ok (.iadd, 1) := F_Law_law_2218.2.2.2.2.2.2.2.2.2.2.2.2.2.2.1
theorem d_Law_law_2236 : decode code 2236 = .ok (.iaload, 1) := F_Law_law_2218.2.2.2.2.2.2.2.2.2.2.2.2.2.2.2.1
theorem d_Law_law_2237 : decode code 2237 = .ok (.invokevirtual 211, 3) := F_Law_law_2218.2.2.2.2.2.2.2.2.2.2.2.2.2.2.2.2.1
theorem d_Law_law_2240 : decode code 2240 = .ok (.aload_n 2, 1) := F_Law_law_2218.2.2.2.2.2.2.2.2.2.2.2.2.2.2.2.2.2.1
theorem d_Law_law_2241 : decode code 2241 = .ok (.aload_n 0, 1) := F_Law_law_2218.2.2.2.2.2.2.2.2.2.2.2.2.2.2.2.2.2.2.1
theorem d_Law_law_2242 : decode code 2242 = .ok (.iload 4, 2) := F_Law_law_2218.2.2.2.2.2.2.2.2.2.2.2.2.2.2.2.2.2.2.2.1
theorem d_Law_law_2244 : decode code 2244 = .ok (.iconst 1, 1) := F_Law_law_2218.2.2.2.2.2.2.2.2.2.2.2.2.2.2.2.2.2.2.2.2.1
theorem d_Law_law_2245 : decode code 2245 = .ok (.iadd, 1) := F_Law_law_2218.2.2.2.2.2.2.2.2.2.2.2.2.2.2.2.2.2.2.2.2.2.1
theorem d_Law_law_2246 : decode code 2246 = .ok (.iaload, 1) := F_Law_law_2218.2.2.2.2.2.2.2.2.2.2.2.2.2.2.2.2.2.2.2.2.2.2.1
theorem d_Law_law_2247 : decode code 2247 = .ok (.aload_n 0, 1) := F_Law_law_2218.2.2.2.2.2.2.2.2.2.2.2.2.2.2.2.2.2.2.2.2.2.2.2.1
theorem d_Law_law_2248 : decode code 2248 = .ok (.iload 4, 2) := F_Law_law_2218.2.2.2.2.2.2.2.2.2.2.2.2.2.2.2.2.2.2.2.2.2.2.2.2.1
theorem d_Law_law_2250 : decode code 2250 = .ok (.iconst 2, 1) := F_Law_law_2218.2.2.2.2.2.2.2.2.2.2.2.2.2.2.2.2.2.2.2.2.2.2.2.2.2.1
theorem d_Law_law_2251 : decode code 2251 = .ok (.iadd, 1) := F_Law_law_2218.2.2.2.2.2.2.2.2.2.2.2.2.2.2.2.2.2.2.2.2.2.2.2.2.2.2.1
theorem d_Law_law_2252 : decode code 2252 = .ok (.iaload, 1) := F_Law_law_2218.2.2.2.2.2.2.2.2.2.2.2.2.2.2.2.2.2.2.2.2.2.2.2.2.2.2.2.1
theorem d_Law_law_2253 : decode code 2253 = .ok (.aload_n 0, 1) := F_Law_law_2218.2.2.2.2.2.2.2.2.2.2.2.2.2.2.2.2.2.2.2.2.2.2.2.2.2.2.2.2.1
theorem d_Law_law_2254 : decode code 2254 = .ok (.iload 4, 2) := F_Law_law_2218.2.2.2.2.2.2.2.2.2.2.2.2.2.2.2.2.2.2.2.2.2.2.2.2.2.2.2.2.2.1
theorem d_Law_law_2256 : decode code 2256 = .ok (.iconst 3, 1) := F_Law_law_2218.2.2.2.2.2.2.2.2.2.2.2.2.2.2.2.2.2.2.2.2.2.2.2.2.2.2.2.2.2.2.1
theorem d_Law_law_2257 : decode code 2257 = .ok (.iadd, 1) := F_Law_law_2218.2.2.2.2.2.2.2.2.2.2.2.2.2.2.2.2.2.2.2.2.2.2.2.2.2.2.2.2.2.2.2.1
theorem F_Law_law_2258 : Jvm.Free.DS.Facts code 2258 [(.iaload, 1), (.invokevirtual 214, 3), (.lcmp, 1), (.ifCond .eq (1108), 3)] := Jvm.Free.DS.facts 2258 _ (by decide +kernel) (by decide +kernel)
theorem d_Law_law_2258 : decode code 2258 = .ok (.iaload, 1) := F_Law_law_2258.1
theorem d_Law_law_2259 : decode code 2259 = .ok (.invokevirtual 214, 3) := F_Law_law_2258.2.1
theorem d_Law_law_2262 : decode code 2262 = .ok (.lcmp, 1) := F_Law_law_2258.2.2.1
theorem d_Law_law_2263 : decode code 2263 = .ok (.ifCond .eq (1108), 3) := F_Law_law_2258.2.2.2.1
theorem F_Law_law_2268 : Jvm.Free.DS.Facts code 2268 [(.aload_n 1, 1), (.aload_n 0, 1), (.iload 4, 2), (.iconst 1, 1), (.iadd, 1), (.iaload, 1), (.aload_n 0, 1), (.iload 4, 2), (.iconst 2, 1), (.iadd, 1), (.iaload, 1), (.invokevirtual 215, 3), (.aload_n 2, 1), (.aload_n 0, 1), (.iload 4, 2), (.iconst 1, 1), (.iadd, 1), (.iaload, 1), (.aload_n 0, 1), (.iload 4, 2), (.iconst 2, 1), (.iadd, 1), (.iaload, 1), (.invokevirtual 218, 3), (.if_icmp .eq (1071), 3)] := Jvm.Free.DS.facts 2268 _ (by decide +kernel) (by decide +kernel)
theorem d_Law_law_2268 : decode code 2268 = .ok (.aload_n 1, 1) := F_Law_law_2268.1
theorem d_Law_law_2269 : decode code 2269 = .ok (.aload_n 0, 1) := F_Law_law_2268.2.1
theorem d_Law_law_2270 : decode code 2270 = .ok (.iload 4, 2) := F_Law_law_2268.2.2.1
theorem d_Law_law_2272 : decode code 2272 = .ok (.iconst 1, 1) := F_Law_law_2268.2.2.2.1
theorem d_Law_law_2273 : decode code 2273 = .ok (.iadd, 1) := F_Law_law_2268.2.2.2.2.1
theorem d_Law_law_2274 : decode code 2274 = .ok (.iaload, 1) := F_Law_law_2268.2.2.2.2.2.1
theorem d_Law_law_2275 : decode code 2275 = .ok (.aload_n 0, 1) := F_Law_law_2268.2.2.2.2.2.2.1
theorem d_Law_law_2276 : decode code 2276 = .ok (.iload 4, 2) := F_Law_law_2268.2.2.2.2.2.2.2.1
theorem d_Law_law_2278 : decode code 2278 = .ok (.iconst 2, 1) := F_Law_law_2268.2.2.2.2.2.2.2.2.1
theorem d_Law_law_2279 : decode code 2279 = .ok (.iadd, 1) := F_Law_law_2268.2.2.2.2.2.2.2.2.2.1
theorem d_Law_law_2280 : decode code 2280 = .ok (.iaload, 1) := F_Law_law_2268.2.2.2.2.2.2.2.2.2.2.1
theorem d_Law_law_2281 : decode code 2281 = .ok (.invokevirtual 215, 3) := F_Law_law_2268.2.2.2.2.2.2.2.2.2.2.2.1
theorem d_Law_law_2284 : decode code 2284 = .ok (.aload_n 2, 1) := F_Law_law_2268.2.2.2.2.2.2.2.2.2.2.2.2.1
theorem d_Law_law_2285 : decode code 2285 = .ok (.aload_n 0, 1) := F_Law_law_2268.2.2.2.2.2.2.2.2.2.2.2.2.2.1
theorem d_Law_law_2286 : decode code 2286 = .ok (.iload 4, 2) := F_Law_law_2268.2.2.2.2.2.2.2.2.2.2.2.2.2.2.1
theorem d_Law_law_2288 : decode code 2288 = .ok (.iconst 1, 1) := F_Law_law_2268.2.2.2.2.2.2.2.2.2.2.2.2.2.2.2.1
theorem d_Law_law_2289 : decode code 2289 = .ok (.iadd, 1) := F_Law_law_2268.2.2.2.2.2.2.2.2.2.2.2.2.2.2.2.2.1
theorem d_Law_law_2290 : decode code 2290 = .ok (.iaload, 1) := F_Law_law_2268.2.2.2.2.2.2.2.2.2.2.2.2.2.2.2.2.2.1
theorem d_Law_law_2291 : decode code 2291 = .ok (.aload_n 0, 1) := F_Law_law_2268.2.2.2.2.2.2.2.2.2.2.2.2.2.2.2.2.2.2.1
theorem d_Law_law_2292 : decode code 2292 = .ok (.iload 4, 2) := F_Law_law_2268.2.2.2.2.2.2.2.2.2.2.2.2.2.2.2.2.2.2.2.1
theorem d_Law_law_2294 : decode code 2294 = .ok (.iconst 2, 1) := F_Law_law_2268.2.2.2.2.2.2.2.2.2.2.2.2.2.2.2.2.2.2.2.2.1
theorem d_Law_law_2295 : decode code 2295 = .ok (.iadd, 1) := F_Law_law_2268.2.2.2.2.2.2.2.2.2.2.2.2.2.2.2.2.2.2.2.2.2.1
theorem d_Law_law_2296 : decode code 2296 = .ok (.iaload, 1) := F_Law_law_2268.2.2.2.2.2.2.2.2.2.2.2.2.2.2.2.2.2.2.2.2.2.2.1
theorem d_Law_law_2297 : decode code 2297 = .ok (.invokevirtual 218, 3) := F_Law_law_2268.2.2.2.2.2.2.2.2.2.2.2.2.2.2.2.2.2.2.2.2.2.2.2.1
theorem d_Law_law_2300 : decode code 2300 = .ok (.if_icmp .eq (1071), 3) := F_Law_law_2268.2.2.2.2.2.2.2.2.2.2.2.2.2.2.2.2.2.2.2.2.2.2.2.2.1
theorem F_Law_law_2305 : Jvm.Free.DS.Facts code 2305 [(.aload_n 1, 1), (.aload_n 0, 1), (.iload 4, 2), (.iconst 1, 1), (.iadd, 1), (.iaload, 1), (.aload_n 0, 1), (.iload 4, 2), (.iconst 2, 1), (.iadd, 1), (.iaload, 1), (.invokevirtual 219, 3), (.aload_n 2, 1), (.aload_n 0, 1), (.iload 4, 2), (.iconst 1, 1), (.iadd, 1), (.iaload, 1), (.aload_n 0, 1), (.iload 4, 2), (.iconst 2, 1), (.iadd, 1), (.iaload, 1), (.invokevirtual 222, 3), (.if_icmp .eq (1034), 3)] := Jvm.Free.DS.facts 2305 _ (by decide +kernel) (by decide +kernel)
theorem d_Law_law_2305 : decode code 2305 = .ok (.aload_n 1, 1) := F_Law_law_2305.1
theorem d_Law_law_2306 : decode code 2306 = .ok (.aload_n 0, 1) := F_Law_law_2305.2.1
theorem d_Law_law_2307 : decode code 2307 = .ok (.iload 4, 2) := F_Law_law_2305.2.2.1
theorem d_Law_law_2309 : decode code 2309 = .ok (.iconst 1, 1) := F_Law_law_2305.2.2.2.1
theorem d_Law_law_2310 : decode code 2310 = .ok (.iadd, 1) := F_Law_law_2305.2.2.2.2.1
theorem d_Law_law_2311 : decode code 2311 = .ok (.iaload, 1) := F_Law_law_2305.2.2.2.2.2.1
theorem d_Law_law_2312 : decode code 2312 = .ok (.aload_n 0, 1) := F_Law_law_2305.2.2.2.2.2.2.1
theorem d_Law_law_2313 : decode code 2313 = .ok (.iload 4, 2) := F_Law_law_2305.2.2.2.2.2.2.2.1
theorem d_Law_law_2315 : decode code 2315 = .ok (.iconst 2, 1) := F_Law_law_2305.2.2.2.2.2.2.2.2.1
theorem d_Law_law_2316 : decode code 2316 = .ok (.iadd, 1) := F_Law_law_2305.2.2.2.2.2.2.2.2.2.1
theorem d_Law_law_2317 : decode code 2317 = .ok (.iaload, 1) := F_Law_law_2305.2.2.2.2.2.2.2.2.2.2.1
theorem d_Law_law_2318 : decode code 2318 = .ok (.invokevirtual 219, 3) := F_Law_law_2305.2.2.2.2.2.2.2.2.2.2.2.1
theorem d_Law_law_2321 : decode code 2321 = .ok (.aload_n 2, 1) := F_Law_law_2305.2.2.2.2.2.2.2.2.2.2.2.2.1
theorem d_Law_law_2322 : decode code 2322 = .ok (.aload_n 0, 1) := F_Law_law_2305.2.2.2.2.2.2.2.2.2.2.2.2.2.1
theorem d_Law_law_2323 : decode code 2323 = .ok (.iload 4, 2) := F_Law_law_2305.2.2.2.2.2.2.2.2.2.2.2.2.2.2.1
theorem d_Law_law_2325 : decode code 2325 = .ok (.iconst 1, 1) := F_Law_law_2305.2.2.2.2.2.2.2.2.2.2.2.2.2.2.2.1
theorem d_Law_law_2326 : decode code 2326 = .ok (.iadd, 1) := F_Law_law_2305.2.2.2.2.2.2.2.2.2.2.2.2.2.2.2.2.1
theorem d_Law_law_2327 : decode code 2327 = .ok (.iaload, 1) := F_Law_law_2305.2.2.2.2.2.2.2.2.2.2.2.2.2.2.2.2.2.1
theorem d_Law_law_2328 : decode code 2328 = .ok (.aload_n 0, 1) := F_Law_law_2305.2.2.2.2.2.2.2.2.2.2.2.2.2.2.2.2.2.2.1
theorem d_Law_law_2329 : decode code 2329 = .ok (.iload 4, 2) := F_Law_law_2305.2.2.2.2.2.2.2.2.2.2.2.2.2.2.2.2.2.2.2.1
theorem d_Law_law_2331 : decode code 2331 = .ok (.iconst 2, 1) := F_Law_law_2305.2.2.2.2.2.2.2.2.2.2.2.2.2.2.2.2.2.2.2.2.1
theorem d_Law_law_2332 : decode code 2332 = .ok (.iadd, 1) := F_Law_law_2305.2.2.2.2.2.2.2.2.2.2.2.2.2.2.2.2.2.2.2.2.2.1
theorem d_Law_law_2333 : decode code 2333 = .ok (.iaload, 1) := F_Law_law_2305.2.2.2.2.2.2.2.2.2.2.2.2.2.2.2.2.2.2.2.2.2.2.1
theorem d_Law_law_2334 : decode code 2334 = .ok (.invokevirtual 222, 3) := F_Law_law_2305.2.2.2.2.2.2.2.2.2.2.2.2.2.2.2.2.2.2.2.2.2.2.2.1
theorem d_Law_law_2337 : decode code 2337 = .ok (.if_icmp .eq (1034), 3) := F_Law_law_2305.2.2.2.2.2.2.2.2.2.2.2.2.2.2.2.2.2.2.2.2.2.2.2.2.1
theorem F_Law_law_2342 : Jvm.Free.DS.Facts code 2342 [(.aload_n 1, 1), (.aload_n 0, 1), (.iload 4, 2), (.iconst 1, 1), (.iadd, 1), (.iaload, 1), (.aload_n 0, 1), (.iload 4, 2), (.iconst 2, 1), (.iadd, 1), (.iaload, 1), (.invokevirtual 223, 3), (.aload_n 2, 1), (.aload_n 0, 1), (.iload 4, 2), (.iconst 1, 1), (.iadd, 1), (.iaload, 1), (.aload_n 0, 1), (.iload 4, 2), (.iconst 2, 1), (.iadd, 1), (.iaload, 1), (.invokevirtual 226, 3), (.if_icmp .eq (997), 3)] := Jvm.Free.DS.facts 2342 _ (by decide +kernel) (by decide +kernel)
theorem d_Law_law_2342 : decode code 2342 = .ok (.aload_n 1, 1) := F_Law_law_2342.1
theorem d_Law_law_2343 : decode code 2343 = .ok (.aload_n 0, 1) := F_Law_law_2342.2.1
theorem d_Law_law_2344 : decode code 2344 = .ok (.iload 4, 2) := F_Law_law_2342.2.2.1
theorem d_Law_law_2346 : decode code 2346 = .ok (.iconst 1, 1) := F_Law_law_2342.2.2.2.1
theorem d_Law_law_2347 : decode code 2347 = .ok (.iadd, 1) := F_Law_law_2342.2.2.2.2.1
theorem d_Law_law_2348 : decode code 2348 = .ok (.iaload, 1) := F_Law_law_2342.2.2.2.2.2.1
theorem d_Law_law_2349 : decode code 2349 = .ok (.aload_n 0, 1) := F_Law_law_2342.2.2.2.2.2.2.1
theorem d_Law_law_2350 : decode code 2350 = .ok (.iload 4, 2) := F_Law_law_2342.2.2.2.2.2.2.2.1
theorem d_Law_law_2352 : decode code 2352 = .ok (.iconst 2, 1) := F_Law_law_2342.2.2.2.2.2.2.2.2.1
theorem d_Law_law_2353 : decode code 2353 = .ok (.iadd, 1) := F_Law_law_2342.2.2.2.2.2.2.2.2.2.1
theorem d_Law_law_2354 : decode code 2354 = .ok (.iaload, 1) := F_Law_law_2342.2.2.2.2.2.2.2.2.2.2.1
theorem d_Law_law_2355 : decode code 2355 = .ok (.invokevirtual 223, 3) := F_Law_law_2342.2.2.2.2.2.2.2.2.2.2.2.1
theorem d_Law_law_2358 : decode code 2358 = .ok (.aload_n 2, 1) := F_Law_law_2342.2.2.2.2.2.2.2.2.2.2.2.2.1
theorem d_Law_law_2359 : decode code 2359 = .ok (.aload_n 0, 1) := F_Law_law_2342.2.2.2.2.2.2.2.2.2.2.2.2.2.1
theorem d_Law_law_2360 : decode code 2360 = .ok (.iload 4, 2) := F_Law_law_2342.2.2.2.2.2.2.2.2.2.2.2.2.2.2.1
theorem d_Law_law_2362 : decode code 2362 = .ok (.iconst 1, 1) := F_Law_law_2342.2.2.2.2.2.2.2.2.2.2.2.2.2.2.2.1
theorem d_Law_law_2363 : decode code 2363 = .ok (.iadd, 1) := F_Law_law_2342.2.2.2.2.2.2.2.2.2.2.2.2.2.2.2.2.1
theorem d_Law_law_2364 : decode code 2364 = .ok (.iaload, 1) := F_Law_law_2342.2.2.2.2.2.2.2.2.2.2.2.2.2.2.2.2.2.1
theorem d_Law_law_2365 : decode code 2365 = .ok (.aload_n 0, 1) := F_Law_law_2342.2.2.2.2.2.2.2.2.2.2.2.2.2.2.2.2.2.2.1
theorem d_Law_law_2366 : decode code 2366 = .ok (.iload 4, 2) := F_Law_law_2342.2.2.2.2.2.2.2.2.2.2.2.2.2.2.2.2.2.2.2.1
theorem d_Law_law_2368 : decode code 2368 = .ok (.iconst 2, 1) := F_Law_law_2342.2.2.2.2.2.2.2.2.2.2.2.2.2.2.2.2.2.2.2.2.1
theorem d_Law_law_2369 : decode code 2369 = .ok (.iadd, 1) := F_Law_law_2342.2.2.2.2.2.2.2.2.2.2.2.2.2.2.2.2.2.2.2.2.2.1
theorem d_Law_law_2370 : decode code 2370 = .ok (.iaload, 1) := F_Law_law_2342.2.2.2.2.2.2.2.2.2.2.2.2.2.2.2.2.2.2.2.2.2.2.1
theorem d_Law_law_2371 : decode code 2371 = .ok (.invokevirtual 226, 3) := F_Law_law_2342.2.2.2.2.2.2.2.2.2.2.2.2.2.2.2.2.2.2.2.2.2.2.2.1
theorem d_Law_law_2374 : decode code 2374 = .ok (.if_icmp .eq (997), 3) := F_Law_law_2342.2.2.2.2.2.2.2.2.2.2.2.2.2.2.2.2.2.2.2.2.2.2.2.2.1
theorem F_Law_law_2379 : Jvm.Free.DS.Facts code 2379 [(.aload_n 1, 1), (.aload_n 0, 1), (.iload 4, 2), (.iconst 1, 1), (.iadd, 1), (.iaload, 1), (.aload_n 0, 1), (.iload 4, 2), (.iconst 2, 1), (.iadd, 1), (.iaload, 1), (.invokevirtual 227, 3), (.aload_n 2, 1), (.aload_n 0, 1), (.iload 4, 2), (.iconst 1, 1), (.iadd, 1), (.iaload, 1), (.aload_n 0, 1), (.iload 4, 2), (.iconst 2, 1), (.iadd, 1), (.iaload, 1), (.invokevirtual 230, 3), (.if_icmp .eq (960), 3)] := Jvm.Free.DS.facts 2379 _ (by decide +kernel) (by decide +kernel)
theorem d_Law_law_2379 : decode code 2379 = .ok (.aload_n 1, 1) := F_Law_law_2379.1
theorem d_Law_law_2380 : decode code 2380 = .ok (.aload_n 0, 1) := F_Law_law_2379.2.1
theorem d_Law_law_2381 : decode code 2381 = .ok (.iload 4, 2) := F_Law_law_2379.2.2.1
theorem d_Law_law_2383 : decode code 2383 = .ok (.iconst 1, 1) := F_Law_law_2379.2.2.2.1
theorem d_Law_law_2384 : decode code 2384 = .ok (.iadd, 1) := F_Law_law_2379.2.2.2.2.1
theorem d_Law_law_2385 : decode code 2385 = .ok (.iaload, 1) := F_Law_law_2379.2.2.2.2.2.1
theorem d_Law_law_2386 : decode code 2386 = .ok (.aload_n 0, 1) := F_Law_law_2379.2.2.2.2.2.2.1
theorem d_Law_law_2387 : decode code 2387 = .ok (.iload 4, 2) := F_Law_law_2379.2.2.2.2.2.2.2.1
theorem d_Law_law_2389 : decode code 2389 = .ok (.iconst 2, 1) := F_Law_law_2379.2.2.2.2.2.2.2.2.1
theorem d_Law_law_2390 : decode code 2390 = .ok (.iadd, 1) := F_Law_law_2379.2.2.2.2.2.2.2.2.2.1
theorem d_Law_law_2391 : decode code 2391 = .ok (.iaload, 1) := F_Law_law_2379.2.2.2.2.2.2.2.2.2.2.1
theorem d_Law_law_2392 : decode code 2392 = .ok (.invokevirtual 227, 3) := F_Law_law_2379.2.2.2.2.2.2.2.2.2.2.2.1
theorem d_Law_law_2395 : decode code 2395 = .ok (.aload_n 2, 1) := F_Law_law_2379.2.2.2.2.2.2.2.2.2.2.2.2.1
theorem d_Law_law_2396 : decode code 2396 = .ok (.aload_n 0, 1) := F_Law_law_2379.2.2.2.2.2.2.2.2.2.2.2.2.2.1
theorem d_Law_law_2397 : decode code 2397 = .ok (.iload 4, 2) := F_Law_law_2379.2.2.2.2.2.2.2.2.2.2.2.2.2.2.1
theorem d_Law_law_2399 : decode code 2399 = .ok (.iconst 1, 1) := F_Law_law_2379.2.2.2.2.2.2.2.2.2.2.2.2.2.2.2.1
theorem d_Law_law_2400 : decode code 2400 = .ok (.iadd, 1) := F_Law_law_2379.2.2.2.2.2.2.2.2.2.2.2.2.2.2.2.2.1
theorem d_Law_law_2401 : decode code 2401 = .ok (.iaload, 1) := F_Law_law_2379.2.2.2.2.2.2.2.2.2.2.2.2.2.2.2.2.2.1
theorem d_Law_law_2402 : decode code 2402 = .ok (.aload_n 0, 1) := F_Law_law_2379.2.2.2.2.2.2.2.2.2.2.2.2.2.2.2.2.2.2.1
theorem d_Law_law_2403 : decode code 2403 = .ok (.iload 4, 2) := F_Law_law_2379.2.2.2.2.2.2.2.2.2.2.2.2.2.2.2.2.2.2.2.1
theorem d_Law_law_2405 : decode code 2405 = .ok (.iconst 2, 1) := F_Law_law_2379.2.2.2.2.2.2.2.2.2.2.2.2.2.2.2.2.2.2.2.2.1
theorem d_Law_law_2406 : decode code 2406 = .ok (.iadd, 1) := F_Law_law_2379.2.2.2.2.2.2.2.2.2.2.2.2.2.2.2.2.2.2.2.2.2.1
theorem d_Law_law_2407 : decode code 2407 = .ok (.iaload, 1) := F_Law_law_2379.2.2.2.2.2.2.2.2.2.2.2.2.2.2.2.2.2.2.2.2.2.2.1
theorem d_Law_law_2408 : decode code 2408 = .ok (.invokevirtual 230, 3) := F_Law_law_2379.2.2.2.2.2.2.2.2.2.2.2.2.2.2.2.2.2.2.2.2.2.2.2.1
theorem d_Law_law_2411 : decode code 2411 = .ok (.if_icmp .eq (960), 3) := F_Law_law_2379.2.2.2.2.2.2.2.2.2.2.2.2.2.2.2.2.2.2.2.2.2.2.2.2.1
theorem F_Law_law_2416 : Jvm.Free.DS.Facts code 2416 [(.aload_n 1, 1), (.aload_n 0, 1), (.iload 4, 2), (.iconst 1, 1), (.iadd, 1), (.iaload, 1), (.aload_n 0, 1), (.iload 4, 2), (.iconst 2, 1), (.iadd, 1), (.iaload, 1), (.invokevirtual 231, 3), (.aload_n 2, 1), (.aload_n 0, 1), (.iload 4, 2), (.iconst 1, 1), (.iadd, 1), (.iaload, 1), (.aload_n 0, 1), (.iload 4, 2), (.iconst 2, 1), (.iadd, 1), (.iaload, 1), (.invokevirtual 234, 3), (.if_icmp .eq (923), 3)] := Jvm.Free.DS.facts 2416 _ (by decide +kernel) (by decide +kernel)
theorem d_Law_law_2416 : decode code 2416 = .ok (.aload_n 1, 1) := F_Law_law_2416.1
theorem d_Law_law_2417 : decode code 2417 = .ok (.aload_n 0, 1) := F_Law_law_2416.2.1
theorem d_Law_law_2418 : decode code 2418 = .ok (.iload 4, 2) := F_Law_law_2416.2.2.1
theorem d_Law_law_2420 : decode code 2420 = .ok (.iconst 1, 1) := F_Law_law_2416.2.2.2.1
theorem d_Law_law_2421 : decode code 2421 = .ok (.iadd, 1) := F_Law_law_2416.2.2.2.2.1
theorem d_Law_law_2422 : decode code 2422 = .ok (.iaload, 1) := F_Law_law_2416.2.2.2.2.2.1
theorem d_Law_law_2423 : decode code 2423 = .ok (.aload_n 0, 1) := F_Law_law_2416.2.2.2.2.2.2.1
theorem d_Law_law_2424 : decode code 2424 = .ok (.iload 4, 2) := F_Law_law_2416.2.2.2.2.2.2.2.1
theorem d_Law_law_2426 : decode code 2426 = .ok (.iconst 2, 1) := F_Law_law_2416.2.2.2.2.2.2.2.2.1
theorem d_Law_law_2427 : decode code 2427 = .ok (.iadd, 1) := F_Law_law_2416.2.2.2.2.2.2.2.2.2.1
theorem d_Law_law_2428 : decode code 2428 = .ok (.iaload, 1) := F_Law_law_2416.2.2.2.2.2.2.2.2.2.2.1
theorem d_Law_law_2429 : decode code 2429 = .ok (.invokevirtual 231, 3) := F_Law_law_2416.2.2.2.2.2.2.2.2.2.2.2.1
theorem d_Law_law_2432 : decode code 2432 = .ok (.aload_n 2, 1) := F_Law_law_2416.2.2.2.2.2.2.2.2.2.2.2.2.1
theorem d_Law_law_2433 : decode code 2433 = .ok (.aload_n 0, 1) := F_Law_law_2416.2.2.2.2.2.2.2.2.2.2.2.2.2.1
theorem d_Law_law_2434 : decode code 2434 = .ok (.iload 4, 2) := F_Law_law_2416.2.2.2.2.2.2.2.2.2.2.2.2.2.2.1
theorem d_Law_law_2436 : decode code 2436 = .ok (.iconst 1, 1) := F_Law_law_2416.2.2.2.2.2.2.2.2.2.2.2.2.2.2.2.1
theorem d_Law_law_2437 : decode code 2437 = .ok (.iadd, 1) := F_Law_law_2416.2.2.2.2.2.2.2.2.2.2.2.2.2.2.2.2.1
theorem d_Law_law_2438 : decode code 2438 = .ok (.iaload, 1) := F_Law_law_2416.2.2.2.2.2.2.2.2.2.2.2.2.2.2.2.2.2.1
theorem d_Law_law_2439 : decode code 2439 = .ok (.aload_n 0, 1) := F_Law_law_2416.2.2.2.2.2.2.2.2.2.2.2.2.2.2.2.2.2.2.1
theorem d_Law_law_2440 : decode code 2440 = .ok (.iload 4, 2) := F_Law_law_2416.2.2.2.2.2.2.2.2.2.2.2.2.2.2.2.2.2.2.2.1
theorem d_Law_law_2442 : decode code 2442 = .ok (.iconst 2, 1) := F_Law_law_2416.2.2.2.2.2.2.2.2.2.2.2.2.2.2.2.2.2.2.2.2.1
theorem d_Law_law_2443 : decode code 2443 = .ok (.iadd, 1) := F_Law_law_2416.2.2.2.2.2.2.2.2.2.2.2.2.2.2.2.2.2.2.2.2.2.1
theorem d_Law_law_2444 : decode code 2444 = .ok (.iaload, 1) := F_Law_law_2416.2.2.2.2.2.2.2.2.2.2.2.2.2.2.2.2.2.2.2.2.2.2.1
theorem d_Law_law_2445 : decode code 2445 = .ok (.invokevirtual 234, 3) := F_Law_law_2416.2.2.2.2.2.2.2.2.2.2.2.2.2.2.2.2.2.2.2.2.2.2.2.1
theorem d_Law_law_2448 : decode code 2448 = .ok (.if_icmp .eq (923), 3) := F_Law_law_2416.2.2.2.2.2.2.2.2.2.2.2.2.2.2.2.2.2.2.2.2.2.2.2.2.1
theorem F_Law_law_2453 : Jvm.Free.DS.Facts code 2453 [(.aload_n 1, 1), (.aload_n 0, 1), (.iload 4, 2), (.iconst 1, 1), (.iadd, 1), (.iaload, 1), (.invokevirtual 235, 3), (.aload_n 2, 1), (.aload_n 0, 1), (.iload 4, 2), (.iconst 1, 1), (.iadd, 1), (.iaload, 1), (.invokevirtual 238, 3), (.if_icmp .eq (898), 3)] := Jvm.Free.DS.facts 2453 _ (by decide +kernel) (by decide +kernel)
theorem d_Law_law_2453 : decode code 2453 = .ok (.aload_n 1, 1) := F_Law_law_2453.1
theorem d_Law_law_2454 : decode code 2454 = .ok (.aload_n 0, 1) := F_Law_law_2453.2.1
theorem d_Law_law_2455 : decode code 2455 = .ok (.iload 4, 2) := F_Law_law_2453.2.2.1
theorem d_Law_law_2457 : decode code 2457 = .ok (.iconst 1, 1) := F_Law_law_2453.2.2.2.1
theorem d_Law_law_2458 : decode code 2458 = .ok (.iadd, 1) := F_Law_law_2453.2.2.2.2.1
theorem d_Law_law_2459 : decode code 2459 = .ok (.iaload, 1) := F_Law_law_2453.2.2.2.2.2.1
theorem d_Law_law_2460 : decode code 2460 = .ok (.invokevirtual 235, 3) := F_Law_law_2453.2.2.2.2.2.2.1
theorem d_Law_law_2463 : decode code 2463 = .ok (.aload_n 2, 1) := F_Law_law_2453.2.2.2.2.2.2.2.1
theorem d_Law_law_2464 : decode code 2464 = .ok (.aload_n 0, 1) := F_Law_law_2453.2.2.2.2.2.2.2.2.1
theorem d_Law_law_2465 : decode code 2465 = .ok (.iload 4, 2) := F_Law_law_2453.2.2.2.2.2.2.2.2.2.1
theorem d_Law_law_2467 : decode code 2467 = .ok (.iconst 1, 1) := F_Law_law_2453.2.2.2.2.2.2.2.2.2.2.1
theorem d_Law_law_2468 : decode code 2468 = .ok (.iadd, 1) := F_Law_law_2453.2.2.2.2.2.2.2.2.2.2.2.1
theorem d_Law_law_2469 : decode code 2469 = .ok (.iaload, 1) := F_Law_law_2453.2.2.2.2.2.2.2.2.2.2.2.2.1
theorem d_Law_law_2470 : decode code 2470 = .ok (.invokevirtual 238, 3) := F_Law_law_2453.2.2.2.2.2.2.2.2.2.2.2.2.2.1
theorem d_Law_law_2473 : decode code 2473 = .ok (.if_icmp .eq (898), 3) := F_Law_law_2453.2.2.2.2.2.2.2.2.2.2.2.2.2.2.1
theorem F_Law_law_2478 : Jvm.Free.DS.Facts code 2478 [(.aload_n 1, 1), (.aload_n 0, 1), (.iload 4, 2), (.iconst 1, 1), (.iadd, 1), (.iaload, 1), (.aload_n 0, 1), (.iload 4, 2), (.iconst 2, 1), (.iadd, 1), (.iaload, 1), (.aload_n 0, 1), (.iload 4, 2), (.iconst 3, 1), (.iadd, 1), (.iaload, 1), (.invokevirtual 239, 3), (.aload_n 2, 1), (.aload_n 0, 1), (.iload 4, 2), (.iconst 1, 1), (.iadd, 1), (.iaload, 1), (.aload_n 0, 1), (.iload 4, 2), (.iconst 2, 1), (.iadd, 1), (.iaload, 1), (.aload_n 0, 1), (.iload 4, 2), (.iconst 3, 1), (.iadd, 1)] := Jvm.Free.DS.facts 2478 _ (by decide +kernel) (by decide +kernel)
theorem d_Law_law_2478 : decode code 2478 = .ok (.aload_n 1, 1) := F_Law_law_2478.1
theorem d_Law_law_2479 : decode code 2479 = .ok (.aload_n 0, 1) := F_Law_law_2478.2.1
theorem d_Law_law_2480 : decode code 2480 = .ok (.iload 4, 2) := F_Law_law_2478.2.2.1
theorem d_Law_law_2482 : decode code 2482 = .ok (.iconst 1, 1) := F_Law_law_2478.2.2.2.1
theorem d_Law_law_2483 : decode code 2483 = .ok (.iadd, 1) := F_Law_law_2478.2.2.2.2.1
theorem d_Law_law_2484 : decode code 2484 = .ok (.iaload, 1) := F_Law_law_2478.2.2.2.2.2.1
theorem d_Law_law_2485 : decode code 2485 = .ok (.aload_n 0, 1) := F_Law_law_2478.2.2.2.2.2.2.1
theorem d_Law_law_2486 : decode code 2486 = .ok (.iload 4, 2) := F_Law_law_2478.2.2.2.2.2.2.2.1
theorem d_Law_law_2488 : decode code 2488 = .ok (.iconst 2, 1) := F_Law_law_2478.2.2.2.2.2.2.2.2.1
theorem d_Law_law_2489 : decode code 2489 = .ok (.iadd, 1) := F_Law_law_2478.2.2.2.2.2.2.2.2.2.1
theorem d_Law_law_2490 : decode code 2490 = .ok (.iaload, 1) := F_Law_law_2478.2.2.2.2.2.2.2.2.2.2.1
theorem d_Law_law_2491 : decode code 2491 = .ok (.aload_n 0, 1) := F_Law_law_2478.2.2.2.2.2.2.2.2.2.2.2.1
theorem d_Law_law_2492 : decode code 2492 = .ok (.iload 4, 2) := F_Law_law_2478.2.2.2.2.2.2.2.2.2.2.2.2.1
theorem d_Law_law_2494 : decode code 2494 = .ok (.iconst 3, 1) := F_Law_law_2478.2.2.2.2.2.2.2.2.2.2.2.2.2.1
theorem d_Law_law_2495 : decode code 2495 = .ok (.iadd, 1) := F_Law_law_2478.2.2.2.2.2.2.2.2.2.2.2.2.2.2.1
theorem d_Law_law_2496 : decode code 2496 = .ok (.iaload, 1) := F_Law_law_2478.2.2.2.2.2.2.2.2.2.2.2.2.2.2.2.1
theorem d_Law_law_2497 : decode code 2497 = .ok (.invokevirtual 239, 3) := F_Law_law_2478.2.2.2.2.2.2.2.2.2.2.2.2.2.2.2.2.1
theorem d_Law_law_2500 : decode code 2500 = .ok (.aload_n 2, 1) := F_Law_law_2478.2.2.2.2.2.2.2.2.2.2.2.2.2.2.2.2.2.1
theorem d_Law_law_2501 : decode code 2501 = .ok (.aload_n 0, 1) := F_Law_law_2478.2.2.2.2.2.2.2.2.2.2.2.2.2.2.2.2.2.2.1
theorem d_Law_law_2502 : decode code 2502 = .ok (.iload 4, 2) := F_Law_law_2478.2.2.2.2.2.2.2.2.2.2.2.2.2.2.2.2.2.2.2.1
theorem d_Law_law_2504 : decode code 2504 = .ok (.iconst 1, 1) := F_Law_law_2478.2.2.2.2.2.2.2.2.2.2.2.2.2.2.2.2.2.2.2.2.1
theorem d_Law_law_2505 : decode code 2505 = .ok (.iadd, 1) := F_Law_law_2478.2.2.2.2.2.2.2.2.2.2.2.2.2.2.2.2.2.2.2.2.2.1
theorem d_Law_law_2506 : decode code 2506 = .ok (.iaload, 1) := F_Law_law_2478.2.2.2.2.2.2.2.2.2.2.2.2.2.2.2.2.2.2.2.2.2.2.1
theorem d_Law_law_2507 : decode code 2507 = .ok (.aload_n 0, 1) := F_Law_law_2478.2.2.2.2.2.2.2.2.2.2.2.2.2.2.2.2.2.2.2.2.2.2.2.1
theorem d_Law_law_2508 : decode code 2508 = .ok (.iload 4, 2) := F_Law_law_2478.2.2.2.2.2.2.2.2.2.2.2.2.2.2.2.2.2.2.2.2.2.2.2.2.1
theorem d_Law_law_2510 : decode code 2510 = .ok (.iconst 2, 1) := F_Law_law_2478.2.2.2.2.2.2.2.2.2.2.2.2.2.2.2.2.2.2.2.2.2.2.2.2.2.1
theorem d_Law_law_2511 : decode code 2511 = .ok (.iadd, 1) := F_Law_law_2478.2.2.2.2.2.2.2.2.2.2.2.2.2.2.2.2.2.2.2.2.2.2.2.2.2.2.1
theorem d_Law_law_2512 : decode code 2512 = .ok (.iaload, 1) := F_Law_law_2478.2.2.2.2.2.2.2.2.2.2.2.2.2.2.2.2.2.2.2.2.2.2.2.2.2.2.2.1
theorem d_Law_law_2513 : decode code 2513 = .ok (.aload_n 0, 1) := F_Law_law_2478.2.2.2.2.2.2.2.2.2.2.2.2.2.2.2.2.2.2.2.2.2.2.2.2.2.2.2.2.1
theorem d_Law_law_2514 : decode code 2514 = .ok (.iload 4, 2) := F_Law_law_2478.2.2.2.2.2.2.2.2.2.2.2.2.2.2.2.2.2.2.2.2.2.2.2.2.2.2.2.2.2.1
theorem d_Law_law_2516 : decode code 2516 = .ok (.iconst 3, 1) := F_Law_law_2478.2.2.2.2.2.2.2.2.2.2.2.2.2.2.2.2.2.2.2.2.2.2.2.2.2.2.2.2.2.2.1
theorem d_Law_law_2517 : decode code 2517 = .ok (.iadd, 1) := F_Law_law_2478.2.2.2.2.2.2.2.2.2.2.2.2.2.2.2.2.2.2.2.2.2.2.2.2.2.2.2.2.2.2.2.1
theorem F_Law_law_2518 : Jvm.Free.DS.Facts code 2518 [(.iaload, 1), (.invokevirtual 242, 3), (.if_icmp .eq (849), 3)] := Jvm.Free.DS.facts 2518 _ (by decide +kernel) (by decide +kernel)
theorem d_Law_law_2518 : decode code 2518 = .ok (.iaload, 1) := F_Law_law_2518.1
theorem d_Law_law_2519 : decode code 2519 = .ok (.invokevirtual 242, 3) := F_Law_law_2518.2.1
theorem d_Law_law_2522 : decode code 2522 = .ok (.if_icmp .eq (849), 3) := F_Law_law_2518.2.2.1
theorem F_Law_law_2527 : Jvm.Free.DS.Facts code 2527 [(.aload_n 1, 1), (.aload_n 0, 1), (.iload 4, 2), (.iconst 1, 1), (.iadd, 1), (.iaload, 1), (.aload_n 0, 1), (.iload 4, 2), (.iconst 2, 1), (.iadd, 1), (.iaload, 1), (.aload_n 0, 1), (.iload 4, 2), (.iconst 3, 1), (.iadd, 1), (.iaload, 1), (.aload_n 0, 1), (.iload 4, 2), (.iconst 4, 1), (.iadd, 1), (.iaload, 1), (.aload_n 0, 1), (.iload 4, 2), (.iconst 5, 1), (.iadd, 1), (.iaload, 1), (.invokevirtual 243, 3), (.aload_n 2, 1), (.aload_n 0, 1), (.iload 4, 2), (.iconst 1, 1), (.iadd, 1)] := Jvm.Free.DS.facts 2527 _ (by decide +kernel) (by decide +kernel)
theorem d_Law_law_2527 : decode code 2527 = .ok (.aload_n 1, 1) := F_Law_law_2527.1
theorem d_Law_law_2528 : decode code 2528 = .ok (.aload_n 0, 1) := F_Law_law_2527.2.1
theorem d_Law_law_2529 : decode code 2529 = .ok (.iload 4, 2) := F_Law_law_2527.2.2.1
theorem d_Law_law_2531 : decode code 2531 = .ok (.iconst 1, 1) := F_Law_law_2527.2.2.2.1
theorem d_Law_law_2532 : decode code 2532 = .ok (.iadd, 1) := F_Law_law_2527.2.2.2.2.1
theorem d_Law_law_2533 : decode code 2533 = .ok (.iaload, 1) := F_Law_law_2527.2.2.2.2.2.1
theorem d_Law_law_2534 : decode code 2534 = .ok (.aload_n 0, 1) := F_Law_law_2527.2.2.2.2.2.2.1
theorem d_Law_law_2535 : decode code 2535 = .ok (.iload 4, 2) := F_Law_law_2527.2.2.2.2.2.2.2.1
theorem d_Law_law_2537 : decode code 2537 = .ok (.iconst 2, 1) := F_Law_law_2527.2.2.2.2.2.2.2.2.1
theorem d_Law_law_2538 : decode code 2538 = .ok (.iadd, 1) := F_Law_law_2527.2.2.2.2.2.2.2.2.2.1
theorem d_Law_law_2539 : decode code 2539 = .ok (.iaload, 1) := F_Law_law_2527.2.2.2.2.2.2.2.2.2.2.1
theorem d_Law_law_2540 : decode code 2540 = .ok (.aload_n 0, 1) := F_Law_law_2527.2.2.2.2.2.2.2.2.2.2.2.1
theorem d_Law_law_2541 : decode code 2541 = .ok (.iload 4, 2) := F_Law_law_2527.2.2.2.2.2.2.2.2.2.2.2.2.1
theorem d_Law_law_2543 : decode code 2543 = .ok (.iconst 3, 1) := F_Law_law_2527.2.2.2.2.2.2.2.2.2.2.2.2.2.1
theorem d_Law_law_2544 : decode code 2544 = .ok (.iadd, 1) := F_Law_law_2527.2.2.2.2.2.2.2.2.2.2.2.2.2.2.1
theorem d_Law_law_2545 : decode code 2545 = .ok (.iaload, 1) := F_Law_law_2527.2.2.2.2.2.2.2.2.2.2.2.2.2.2.2.1
theorem d_Law_law_2546 : decode code 2546 = .ok (.aload_n 0, 1) := F_Law_law_2527.2.2.2.2.2.2.2.2.2.2.2.2.2.2.2.2.1
theorem d_Law_law_2547 : decode code 2547 = .ok (.iload 4, 2) := F_Law_law_2527.2.2.2.2.2.2.2.2.2.2.2.2.2.2.2.2.2.1
theorem d_Law_law_2549 : decode code 2549 = .ok (.iconst 4, 1) := F_Law_law_2527.2.2.2.2.2.2.2.2.2.2.2.2.2.2.2.2.2.2.1
theorem d_Law_law_2550 : decode code 2550 = .ok (.iadd, 1) := F_Law_law_2527.2.2.2.2.2.2.2.2.2.2.2.2.2.2.2.2.2.2.2.1
theorem d_Law_law_2551 : decode code 2551 = .ok (.iaload, 1) := F_Law_law_2527.2.2.2.2.2.2.2.2.2.2.2.2.2.2.2.2.2.2.2.2.1
theorem d_Law_law_2552 : decode code 2552 = .ok (.aload_n 0, 1) := F_Law_law_2527.2.2.2.2.2.2.2.2.2.2.2.2.2.2.2.2.2.2.2.2.2.1
theorem d_Law_law_2553 : decode code 2553 = .ok (.iload 4, 2) := F_Law_law_2527.2.2.2.2.2.2.2.2.2.2.2.2.2.2.2.2.2.2.2.2.2.2.1
theorem d_Law_law_2555 : decode code 2555 = .ok (.iconst 5, 1) := F_Law_law_2527.2.2.2.2.2.2.2.2.2.2.2.2.2.2.2.2.2.2.2.2.2.2.2.1
theorem d_Law_law_2556 : decode code 2556 = .ok (.iadd, 1) := F_Law_law_2527.2.2.2.2.2.2.2.2.2.2.2.2.2.2.2.2.2.2.2.2.2.2.2.2.1
theorem d_Law_law_2557 : decode code 2557 = .ok (.iaload, 1) := F_Law_law_2527.2.2.2.2.2.2.2.2.2.2.2.2.2.2.2.2.2.2.2.2.2.2.2.2.2.1
theorem d_Law_law_2558 : decode code 2558 = .ok (.invokevirtual 243, 3) := F_Law_law_2527.2.2.2.2.2.2.2.2.2.2.2.2.2.2.2.2.2.2.2.2.2.2.2.2.2.2.1
theorem d_Law_law_2561 : decode code 2561 = .ok (.aload_n 2, 1) := F_Law_law_2527.2.2.2.2.2.2.2.2.2.2.2.2.2.2.2.2.2.2.2.2.2.2.2.2.2.2.2.1
theorem d_Law_law_2562 : decode code 2562 = .ok (.aload_n 0, 1) := F_Law_law_2527.2.2.2.2.2.2.2.2.2.2.2.2.2.2.2.2.2.2.2.2.2.2.2.2.2.2.2.2.1
theorem d_Law_law_2563 : decode code 2563 = .ok (.iload 4, 2) := F_Law_law_2527.2.2.2.2.2.2.2.2.2.2.2.2.2.2.2.2.2.2.2.2.2.2.2.2.2.2.2.2.2.1
theorem d_Law_law_2565 : decode code 2565 = .ok (.iconst 1, 1) := F_Law_law_2527.2.2.2.2.2.2.2.2.2.2.2.2.2.2.2.2.2.2.2.2.2.2.2.2.2.2.2.2.2.2.1
theorem d_Law_law_2566 : decode code 2566 = .ok (.iadd, 1) := F_Law_law_2527.2.2.2.2.2.2.2.2.2.2.2.2.2.2.2.2.2.2.2.2.2.2.2.2.2.2.2.2.2.2.2.1
theorem F_Law_law_2567 : Jvm.Free.DS.Facts code 2567 [(.iaload, 1), (.aload_n 0, 1), (.iload 4, 2), (.iconst 2, 1), (.iadd, 1), (.iaload, 1), (.aload_n 0, 1), (.iload 4, 2), (.iconst 3, 1), (.iadd, 1), (.iaload, 1), (.aload_n 0, 1), (.iload 4, 2), (.iconst 4, 1), (.iadd, 1), (.iaload, 1), (.aload_n 0, 1), (.iload 4, 2), (.iconst 5, 1), (.iadd, 1), (.iaload, 1), (.invokevirtual 246, 3), (.lcmp, 1), (.ifCond .eq (775), 3)] := Jvm.Free.DS.facts 2567 _ (by decide +kernel) (by decide +kernel)
theorem d_Law_law_2567 : decode code 2567 = .ok (.iaload, 1) := F_Law_law_2567.1
theorem d_Law_law_2568 : decode code 2568 = .ok (.aload_n 0, 1) := F_Law_law_2567.2.1
theorem d_Law_law_2569 : decode code 2569 = .ok (.iload 4, 2) := F_Law_law_2567.2.2.1
theorem d_Law_law_2571 : decode code 2571 = .ok (.iconst 2, 1) := F_Law_law_2567.2.2.2.1
theorem d_Law_law_2572 : decode code 2572 = .ok (.iadd, 1) := F_Law_law_2567.2.2.2.2.1
theorem d_Law_law_2573 : decode code 2573 = .ok (.iaload, 1) := F_Law_law_2567.2.2.2.2.2.1
theorem d_Law_law_2574 : decode code 2574 = .ok (.aload_n 0, 1) := F_Law_law_2567.2.2.2.2.2.2.1
theorem d_Law_law_2575 : decode code 2575 = .ok (.iload 4, 2) := F_Law_law_2567.2.2.2.2.2.2.2.1
theorem d_Law_law_2577 : decode code 2577 = .ok (.iconst 3, 1) := F_Law_law_2567.2.2.2.2.2.2.2.2.1
theorem d_Law_law_2578 : decode code 2578 = .ok (.iadd, 1) := F_Law_law_2567.2.2.2.2.2.2.2.2.2.1
theorem d_Law_law_2579 : decode code 2579 = .ok (.iaload, 1) := F_Law_law_2567.2.2.2.2.2.2.2.2.2.2.1
theorem d_Law_law_2580 : decode code 2580 = .ok (.aload_n 0, 1) := F_Law_law_2567.2.2.2.2.2.2.2.2.2.2.2.1
theorem d_Law_law_2581 : decode code 2581 = .ok (.iload 4, 2) := F_Law_law_2567.2.2.2.2.2.2.2.2.2.2.2.2.1
theorem d_Law_law_2583 : decode code 2583 = .ok (.iconst 4, 1) := F_Law_law_2567.2.2.2.2.2.2.2.2.2.2.2.2.2.1
theorem d_Law_law_2584 : decode code 2584 = .ok (.iadd, 1) := F_Law_law_2567.2.2.2.2.2.2.2.2.2.2.2.2.2.2.1
theorem d_Law_law_2585 : decode code 2585 = .ok (.iaload, 1) := F_Law_law_2567.2.2.2.2.2.2.2.2.2.2.2.2.2.2.2.1
theorem d_Law_law_2586 : decode code 2586 = .ok (.aload_n 0, 1) := F_Law_law_2567.2.2.2.2.2.2.2.2.2.2.2.2.2.2.2.2.1
theorem d_Law_law_2587 : decode code 2587 = .ok (.iload 4, 2) := F_Law_law_2567.2.2.2.2.2.2.2.2.2.2.2.2.2.2.2.2.2.1
theorem d_Law_law_2589 : decode code 2589 = .ok (.iconst 5, 1) := F_Law_law_2567.2.2.2.2.2.2.2.2.2.2.2.2.2.2.2.2.2.2.1
theorem d_Law_law_2590 : decode code 2590 = .ok (.iadd, 1) := F_Law_law_2567.2.2.2.2.2.2.2.2.2.2.2.2.2.2.2.2.2.2.2.1
theorem d_Law_law_2591 : decode code 2591 = .ok (.iaload, 1) := F_Law_law_2567.2.2.2.2.2.2.2.2.2.2.2.2.2.2.2.2.2.2.2.2.1
theorem d_Law_law_2592 : decode code 2592 = .ok (.invokevirtual 246, 3) := F_Law_law_2567.2.2.2.2.2.2.2.2.2.2.2.2.2.2.2.2.2.2.2.2.2.1
theorem d_Law_law_2595 : decode code 2595 = .ok (.lcmp, 1) := F_Law_law_2567.2.2.2.2.2.2.2.2.2.2.2.2.2.2.2.2.2.2.2.2.2.2.1
theorem d_Law_law_2596 : decode code 2596 = .ok (.ifCond .eq (775), 3) := F_Law_law_2567.2.2.2.2.2.2.2.2.2.2.2.2.2.2.2.2.2.2.2.2.2.2.2.1
theorem F_Law_law_2601 : Jvm.Free.DS.Facts code 2601 [(.aload_n 1, 1), (.aload_n 0, 1), (.iload 4, 2), (.iconst 1, 1), (.iadd, 1), (.iaload, 1), (.aload_n 0, 1), (.iload 4, 2), (.iconst 2, 1), (.iadd, 1), (.iaload, 1), (.aload_n 0, 1), (.iload 4, 2), (.iconst 3, 1), (.iadd, 1), (.iaload, 1), (.aload_n 0, 1), (.iload 4, 2), (.iconst 4, 1), (.iadd, 1), (.iaload, 1), (.invokevirtual 247, 3), (.aload_n 2, 1), (.aload_n 0, 1), (.iload 4, 2), (.iconst 1, 1), (.iadd, 1), (.iaload, 1), (.aload_n 0, 1), (.iload 4, 2), (.iconst 2, 1), (.iadd, 1)] := Jvm.Free.DS.facts 2601 _ (by decide +kernel) (by decide +kernel)
theorem d_Law_law_2601 : decode code 2601 = .ok (.aload_n 1, 1) := F_Law_law_2601.1
theorem d_Law_law_2602 : decode code 2602 = .ok (.aload_n 0, 1) := F_Law_law_2601.2.1
theorem d_Law_law_2603 : decode code 2603 = .ok (.iload 4, 2) := F_Law_law_2601.2.2.1
theorem d_Law_law_2605 : decode code 2605 = .ok (.iconst 1, 1) := F_Law_law_2601.2.2.2.1
theorem d_Law_law_2606 : decode code 2606 = .ok (.iadd, 1) := F_Law_law_2601.2.2.2.2.1
theorem d_Law_law_2607 : decode code 2607 = .ok (.iaload, 1) := F_Law_law_2601.2.2.2.2.2.1
theorem d_Law_law_2608 : decode code 2608 = .ok (.aload_n 0, 1) := F_Law_law_2601.2.2.2.2.2.2.1
theorem d_Law_law_2609 : decode code 2609 = .ok (.iload 4, 2) := F_Law_law_2601.2.2.2.2.2.2.2.1
theorem d_Law_law_2611 : decode code 2611 = .ok (.iconst 2, 1) := F_Law_law_2601.2.2.2.2.2.2.2.2.1
theorem d_Law_law_2612 : decode code 2612 = .ok (.iadd, 1) := F_Law_law_2601.2.2.2.2.2.2.2.2.2.1
theorem d_Law_law_2613 : decode code 2613 = .ok (.iaload, 1) := F_Law_law_2601.2.2.2.2.2.2.2.2.2.2.1
theorem d_Law_law_2614 : decode code 2614 = .ok (.aload_n 0, 1) := F_Law_law_2601.2.2.2.2.2.2.2.2.2.2.2.1
theorem d_Law_law_2615 : decode code 2615 = .ok (.iload 4, 2) := F_Law_law_2601.2.2.2.2.2.2.2.2.2.2.2.2.1
theorem d_Law_law_2617 : decode code 2617 = .ok (.iconst 3, 1) := F_Law_law_2601.2.2.2.2.2.2.2.2.2.2.2.2.2.1
theorem d_Law_law_2618 : decode code 2618 = .ok (.iadd, 1) := F_Law_law_2601.2.2.2.2.2.2.2.2.2.2.2.2.2.2.1
theorem d_Law_law_2619 : decode code 2619 = .ok (.iaload, 1) := F_Law_law_2601.2.2.2.2.2.2.2.2.2.2.2.2.2.2.2.1
theorem d_Law_law_2620 : decode code 2620 = .ok (.aload_n 0, 1) := F_Law_law_2601.2.2.2.2.2.2.2.2.2.2.2.2.2.2.2.2.1
theorem d_Law_law_2621 : decode code 2621 = .ok (.iload 4, 2) := F_Law_law_2601.2.2.2.2.2.2.2.2.2.2.2.2.2.2.2.2.2.1
theorem d_Law_law_2623 : decode code 2623 = .ok (.iconst 4, 1) := F_Law_law_2601.2.2.2.2.2.2.2.2.2.2.2.2.2.2.2.2.2.2.1
theorem d_Law_law_2624 : decode code 2624 = .ok (.iadd, 1) := F_Law_law_2601.2.2.2.2.2.2.2.2.2.2.2.2.2.2.2.2.2.2.2.1
theorem d_Law_law_2625 : decode code 2625 = .ok (.iaload, 1) := F_Law_law_2601.2.2.2.2.2.2.2.2.2.2.2.2.2.2.2.2.2.2.2.2.1
theorem d_Law_law_2626 : decode code 2626 = .ok (.invokevirtual 247, 3) := F_Law_law_2601.2.2.2.2.2.2.2.2.2.2.2.2.2.2.2.2.2.2.2.2.2.1
theorem d_Law_law_2629 : decode code 2629 = .ok (.aload_n 2, 1) := F_Law_law_2601.2.2.2.2.2.2.2.2.2.2.2.2.2.2.2.2.2.2.2.2.2.2.1
theorem d_Law_law_2630 : decode code 2630 = .ok (.aload_n 0, 1) := F_Law_law_2601.2.2.2.2.2.2.2.2.2.2.2.2.2.2.2.2.2.2.2.2.2.2.2.1
theorem d_Law_law_2631 : decode code 2631 = .ok (.iload 4, 2) := F_Law_law_2601.2.2.2.2.2.2.2.2.2.2.2.2.2.2.2.2.2.2.2.2.2.2.2.2.1
theorem d_Law_law_2633 : decode code 2633 = .ok (.iconst 1, 1) := F_Law_law_2601.2.2.2.2.2.2.2.2.2.2.2.2.2.2.2.2.2.2.2.2.2.2.2.2.2.1
theorem d_Law_law_2634 : decode code 2634 = .ok (.iadd, 1) := F_Law_law_2601.2.2.2.2.2.2.2.2.2.2.2.2.2.2.2.2.2.2.2.2.2.2.2.2.2.2.1
theorem d_Law_law_2635 : decode code 2635 = .ok (.iaload, 1) := F_Law_law_2601.2.2.2.2.2.2.2.2.2.2.2.2.2.2.2.2.2.2.2.2.2.2.2.2.2.2.2.1
theorem d_Law_law_2636 : decode code 2636 = .ok (.aload_n 0, 1) := F_Law_law_2601.2.2.2.2.2.2.2.2.2.2.2.2.2.2.2.2.2.2.2.2.2.2.2.2.2.2.2.2.1
theorem d_Law_law_2637 : decode code 2637 = .ok (.iload 4, 2) := F_Law_law_2601.2.2.2.2.2.2.2.2.2.2.2.2.2.2.2.2.2.2.2.2.2.2.2.2.2.2.2.2.2.1
theorem d_Law_law_2639 : decode code 2639 = .ok (.iconst 2, 1) := F_Law_law_2601.2.2.2.2.2.2.2.2.2.2.2.2.2.2.2.2.2.2.2.2.2.2.2.2.2.2.2.2.2.2.1
theorem d_Law_law_2640 : decode code 2640 = .ok (.iadd, 1) := F_Law_law_2601.2.2.2.2.2.2.2.2.2.2.2.2.2.2.2.2.2.2.2.2.2.2.2.2.2.2.2.2.2.2.2.1
theorem F_Law_law_2641 : Jvm.Free.DS.Facts code 2641 [(.iaload, 1), (.aload_n 0, 1), (.iload 4, 2), (.iconst 3, 1), (.iadd, 1), (.iaload, 1), (.aload_n 0, 1), (.iload 4, 2), (.iconst 4, 1), (.iadd, 1), (.iaload, 1), (.invokevirtual 251, 3), (.if_icmp .eq (714), 3)] := Jvm.Free.DS.facts 2641 _ (by decide +kernel) (by decide +kernel)
theorem d_Law_law_2641 : decode code 2641 = .ok (.iaload, 1) := F_Law_law_2641.1
theorem d_Law_law_2642 : decode code 2642 = .ok (.aload_n 0, 1) := F_Law_law_2641.2.1
theorem d_Law_law_2643 : decode code 2643 = .ok (.iload 4, 2) := F_Law_law_2641.2.2.1
theorem d_Law_law_2645 : decode code 2645 = .ok (.iconst 3, 1) := F_Law_law_2641.2.2.2.1
theorem d_Law_law_2646 : decode code 2646 = .ok (.iadd, 1) := F_Law_law_2641.2.2.2.2.1
theorem d_Law_law_2647 : decode code 2647 = .ok (.iaload, 1) := F_Law_law_2641.2.2.2.2.2.1
theorem d_Law_law_2648 : decode code 2648 = .ok (.aload_n 0, 1) := F_Law_law_2641.2.2.2.2.2.2.1
theorem d_Law_law_2649 : decode code 2649 = .ok (.iload 4, 2) := F_Law_law_2641.2.2.2.2.2.2.2.1
theorem d_Law_law_2651 : decode code 2651 = .ok (.iconst 4, 1) := F_Law_law_2641.2.2.2.2.2.2.2.2.1
theorem d_Law_law_2652 : decode code 2652 = .ok (.iadd, 1) := F_Law_law_2641.2.2.2.2.2.2.2.2.2.1
theorem d_Law_law_2653 : decode code 2653 = .ok (.iaload, 1) := F_Law_law_2641.2.2.2.2.2.2.2.2.2.2.1
theorem d_Law_law_2654 : decode code 2654 = .ok (.invokevirtual 251, 3) := F_Law_law_2641.2.2.2.2.2.2.2.2.2.2.2.1
theorem d_Law_law_2657 : decode code 2657 = .ok (.if_icmp .eq (714), 3) := F_Law_law_2641.2.2.2.2.2.2.2.2.2.2.2.2.1
theorem F_Law_law_2662 : Jvm.Free.DS.Facts code 2662 [(.aload_n 1, 1), (.aload_n 0, 1), (.iload 4, 2), (.iconst 1, 1), (.iadd, 1), (.iaload, 1), (.aload_n 0, 1), (.iload 4, 2), (.iconst 2, 1), (.iadd, 1), (.iaload, 1), (.aload_n 0, 1), (.iload 4, 2), (.iconst 3, 1), (.iadd, 1), (.iaload, 1), (.invokevirtual 252, 3), (.aload_n 2, 1), (.aload_n 0, 1), (.iload 4, 2), (.iconst 1, 1), (.iadd, 1), (.iaload, 1), (.aload_n 0, 1), (.iload 4, 2), (.iconst 2, 1), (.iadd, 1), (.iaload, 1), (.aload_n 0, 1), (.iload 4, 2), (.iconst 3, 1), (.iadd, 1)] := Jvm.Free.DS.facts 2662 _ (by decide +kernel) (by decide +kernel)
theorem d_Law_law_2662 : decode code 2662 = .ok (.aload_n 1, 1) := F_Law_law_2662.1
theorem d_Law_law_2663 : decode code 2663 = .ok (.aload_n 0, 1) := F_Law_law_2662.2.1
theorem d_Law_law_2664 : decode code 2664 = .ok (.iload 4, 2) := F_Law_law_2662.2.2.1
theorem d_Law_law_2666 : decode code 2666 = .ok (.iconst 1, 1) := F_Law_law_2662.2.2.2.1
theorem d_Law_law_2667 : decode code 2667 = .ok (.iadd, 1) := F_Law_law_2662.2.2.2.2.1
theorem d_Law_law_2668 : decode code 2668 = .ok (.iaload, 1) := F_Law_law_2662.2.2.2.2.2.1
theorem d_Law_law_2669 : decode code 2669 = .ok (.aload_n 0, 1) := F_Law_law_2662.2.2.2.2.2.2.1
theorem d_Law_law_2670 : decode code 2670 = .ok (.iload 4, 2) := F_Law_law_2662.2.2.2.2.2.2.2.1
theorem d_Law_law_2672 : decode code 2672 = .ok (.iconst 2, 1) := F_Law_law_2662.2.2.2.2.2.2.2.2.1
theorem d_Law_law_2673 : decode code 2673 = .ok (.iadd, 1) := F_Law_law_2662.2.2.2.2.2.2.2.2.2.1
theorem d_Law_law_2674 : decode code 2674 = .ok (.iaload, 1) := F_Law_law_2662.2.2.2.2.2.2.2.2.2.2.1
theorem d_Law_law_2675 : decode code 2675 = .ok (.aload_n 0, 1) := F_Law_law_2662.2.2.2.2.2.2.2.2.2.2.2.1
theorem d_Law_law_2676 : decode code 2676 = .ok (.iload 4, 2) := F_Law_law_2662.2.2.2.2.2.2.2.2.2.2.2.2.1
theorem d_Law_law_2678 : decode code 2678 = .ok (.iconst 3, 1) := F_Law_law_2662.2.2.2.2.2.2.2.2.2.2.2.2.2.1
theorem d_Law_law_2679 : decode code 2679 = .ok (.iadd, 1) := F_Law_law_2662.2.2.2.2.2.2.2.2.2.2.2.2.2.2.1
theorem d_Law_law_2680 : decode code 2680 = .ok (.iaload, 1) := F_Law_law_2662.2.2.2.2.2.2.2.2.2.2.2.2.2.2.2.1
theorem d_Law_law_2681 : decode code 2681 = .ok (.invokevirtual 252, 3) := F_Law_law_2662.2.2.2.2.2.2.2.2.2.2.2.2.2.2.2.2.1
theorem d_Law_law_2684 : decode code 2684 = .ok (.aload_n 2, 1) := F_Law_law_2662.2.2.2.2.2.2.2.2.2.2.2.2.2.2.2.2.2.1
theorem d_Law_law_2685 : decode code 2685 = .ok (.aload_n 0, 1) := F_Law_law_2662.2.2.2.2.2.2.2.2.2.2.2.2.2.2.2.2.2.2.1
theorem d_Law_law_2686 : decode code 2686 = .ok (.iload 4, 2) := F_Law_law_2662.2.2.2.2.2.2.2.2.2.2.2.2.2.2.2.2.2.2.2.1
theorem d_Law_law_2688 : decode code 2688 = .ok (.iconst 1, 1) := F_Law_law_2662.2.2.2.2.2.2.2.2.2.2.2.2.2.2.2.2.2.2.2.2.1
theorem d_Law_law_2689 : decode code 2689 = .ok (.iadd, 1) := F_Law_law_2662.2.2.2.2.2.2.2.2.2.2.2.2.2.2.2.2.2.2.2.2.2.1
theorem d_Law_law_2690 : decode code 2690 = .ok (.iaload, 1) := F_Law_law_2662.2.2.2.2.2.2.2.2.2.2.2.2.2.2.2.2.2.2.2.2.2.2.1
theorem d_Law_law_2691 : decode code 2691 = .ok (.aload_n 0, 1) := F_Law_law_2662.2.2.2.2.2.2.2.2.2.2.2.2.2.2.2.2.2.2.2.2.2.2.2.1
theorem d_Law_law_2692 : decode code 2692 = .ok (.iload 4, 2) := F_Law_law_2662.2.2.2.2.2.2.2.2.2.2.2.2.2.2.2.2.2.2.2.2.2.2.2.2.1
theorem d_Law_law_2694 : decode code 2694 = .ok (.iconst 2, 1) := F_Law_law_2662.2.2.2.2.2.2.2.2.2.2.2.2.2.2.2.2.2.2.2.2.2.2.2.2.2.1
theorem d_Law_law_2695 : decode code 2695 = .ok (.iadd, 1) := F_Law_law_2662.2.2.2.2.2.2.2.2.2.2.2.2.2.2.2.2.2.2.2.2.2.2.2.2.2.2.1
theorem d_Law_law_2696 : decode code 2696 = .ok (.iaload, 1) := F_Law_law_2662.2.2.2.2.2.2.2.2.2.2.2.2.2.2.2.2.2.2.2.2.2.2.2.2.2.2.2.1
theorem d_Law_law_2697 : decode code 2697 = .ok (.aload_n 0, 1) := F_Law_law_2662.2.2.2.2.2.2.2.2.2.2.2.2.2.2.2.2.2.2.2.2.2.2.2.2.2.2.2.2.1
theorem d_Law_law_2698 : decode code 2698 = .ok (.iload 4, 2) := F_Law_law_2662.2.2.2.2.2.2.2.2.2.2.2.2.2.2.2.2.2.2.2.2.2.2.2.2.2.2.2.2.2.1
theorem d_Law_law_2700 : decode code 2700 = .ok (.iconst 3, 1) := F_Law_law_2662.2.2.2.2.2.2.2.2.2.2.2.2.2.2.2.2.2.2.2.2.2.2.2.2.2.2.2.2.2.2.1
theorem d_Law_law_2701 : decode code 2701 = .ok (.iadd, 1) := F_Law_law_2662.2.2.2.2.2.2.2.2.2.2.2.2.2.2.2.2.2.2.2.2.2.2.2.2.2.2.2.2.2.2.2.1
theorem F_Law_law_2702 : Jvm.Free.DS.Facts code 2702 [(.iaload, 1), (.invokevirtual 255, 3), (.lcmp, 1), (.ifCond .eq (664), 3)] := Jvm.Free.DS.facts 2702 _ (by decide +kernel) (by decide +kernel)
theorem d_Law_law_2702 : decode code 2702 = .ok (.iaload, 1) := F_Law_law_2702.1
theorem d_Law_law_2703 : decode code 2703 = .ok (.invokevirtual 255, 3) := F_Law_law_2702.2.1
theorem d_Law_law_2706 : decode code 2706 = .ok (.lcmp, 1) := F_Law_law_2702.2.2.1
theorem d_Law_law_2707 : decode code 2707 = .ok (.ifCond .eq (664), 3) := F_Law_law_2702.2.2.2.1
theorem F_Law_law_2712 : Jvm.Free.DS.Facts code 2712 [(.aload_n 1, 1), (.aload_n 0, 1), (.iload 4, 2), (.iconst 1, 1), (.iadd, 1), (.iaload, 1), (.aload_n 0, 1), (.iload 4, 2), (.iconst 2, 1), (.iadd, 1), (.iaload, 1), (.aload_n 0, 1), (.iload 4, 2), (.iconst 3, 1), (.iadd, 1), (.iaload, 1), (.invokevirtual 256, 3), (.aload_n 2, 1), (.aload_n 0, 1), (.iload 4, 2), (.iconst 1, 1), (.iadd, 1), (.iaload, 1), (.aload_n 0, 1), (.iload 4, 2), (.iconst 2, 1), (.iadd, 1), (.iaload, 1), (.aload_n 0, 1), (.iload 4, 2), (.iconst 3, 1), (.iadd, 1)] := Jvm.Free.DS.facts 2712 _ (by decide +kernel) (by decide +kernel)
theorem d_Law_law_2712 : decode code 2712 = .ok (.aload_n 1, 1) := F_Law_law_2712.1
theorem d_Law_law_2713 : decode code 2713 = .ok (.aload_n 0, 1) := F_Law_law_2712.2.1
theorem d_Law_law_2714 : decode code 2714 = .ok (.iload 4, 2) := F_Law_law_2712.2.2.1
theorem d_Law_law_2716 : decode code 2716 = .ok (.iconst 1, 1) := F_Law_law_2712.2.2.2.1
theorem d_Law_law_2717 : decode code 2717 = .ok (.iadd, 1) := F_Law_law_2712.2.2.2.2.1
theorem d_Law_law_2718 : decode code 2718 = .ok (.iaload, 1) := F_Law_law_2712.2.2.2.2.2.1
theorem d_Law_law_2719 : decode code 2719 = .ok (.aload_n 0, 1) := F_Law_law_2712.2.2.2.2.2.2.1
theorem d_Law_law_2720 : decode code 2720 = .ok (.iload 4, 2) := F_Law_law_2712.2.2.2.2.2.2.2.1
theorem d_Law_law_2722 : decode code 2722 = .ok (.iconst 2, 1) := F_Law_law_2712.2.2.2.2.2.2.2.2.1
theorem d_Law_law_2723 : decode code 2723 = .ok (.iadd, 1) := F_Law_law_2712.2.2.2.2.2.2.2.2.2.1
theorem d_Law_law_2724 : decode code 2724 = .ok (.iaload, 1) := F_Law_law_2712.2.2.2.2.2.2.2.2.2.2.1
theorem d_Law_law_2725 : decode code 2725 = .ok (.aload_n 0, 1) := F_Law_law_2712.2.2.2.2.2.2.2.2.2.2.2.1
theorem d_Law_law_2726 : decode code 2726 = .ok (.iload 4, 2) := F_Law_law_2712.2.2.2.2.2.2.2.2.2.2.2.2.1
theorem d_Law_law_2728 : decode code 2728 = .ok (.iconst 3, 1) := F_Law_law_2712.2.2.2.2.2.2.2.2.2.2.2.2.2.1
theorem d_Law_law_2729 : decode code 2729 = .ok (.iadd, 1) := F_Law_law_2712.2.2.2.2.2.2.2.2.2.2.2.2.2.2.1
theorem d_Law_law_2730 : decode code 2730 = .ok (.iaload, 1) := F_Law_law_2712.2.2.2.2.2.2.2.2.2.2.2.2.2.2.2.1
theorem d_Law_law_2731 : decode code 2731 = .ok (.invokevirtual 256, 3) := F_Law_law_2712.2.2.2.2.2.2.2.2.2.2.2.2.2.2.2.2.1
theorem d_Law_law_2734 : decode code 2734 = .ok (.aload_n 2, 1) := F_Law_law_2712.2.2.2.2.2.2.2.2.2.2.2.2.2.2.2.2.2.1
theorem d_Law_law_2735 : decode code 2735 = .ok (.aload_n 0, 1) := F_Law_law_2712.2.2.2.2.2.2.2.2.2.2.2.2.2.2.2.2.2.2.1
theorem d_Law_law_2736 : decode code 2736 = .ok (.iload 4, 2) := F_Law_law_2712.2.2.2.2.2.2.2.2.2.2.2.2.2.2.2.2.2.2.2.1
theorem d_Law_law_2738 : decode code 2738 = .ok (.iconst 1, 1) := F_Law_law_2712.2.2.2.2.2.2.2.2.2.2.2.2.2.2.2.2.2.2.2.2.1
theorem d_Law_law_2739 : decode code 2739 = .ok (.iadd, 1) := F_Law_law_2712.2.2.2.2.2.2.2.2.2.2.2.2.2.2.2.2.2.2.2.2.2.1
theorem d_Law_law_2740 : decode code 2740 = .ok (.iaload, 1) := F_Law_law_2712.2.2.2.2.2.2.2.2.2.2.2.2.2.2.2.2.2.2.2.2.2.2.1
theorem d_Law_law_2741 : decode code 2741 = .ok (.aload_n 0, 1) := F_Law_law_2712.2.2.2.2.2.2.2.2.2.2.2.2.2.2.2.2.2.2.2.2.2.2.2.1
theorem d_Law_law_2742 : decode code 2742 = .ok (.iload 4, 2) := F_Law_law_2712.2.2.2.2.2.2.2.2.2.2.2.2.2.2.2.2.2.2.2.2.2.2.2.2.1
theorem d_Law_law_2744 : decode code 2744 = .ok (.iconst 2, 1) := F_Law_law_2712.2.2.2.2.2.2.2.2.2.2.2.2.2.2.2.2.2.2.2.2.2.2.2.2.2.1
theorem d_Law_law_2745 : decode code 2745 = .ok (.iadd, 1) := F_Law_law_2712.2.2.2.2.2.2.2.2.2.2.2.2.2.2.2.2.2.2.2.2.2.2.2.2.2.2.1
theorem d_Law_law_2746 : decode code 2746 = .ok (.iaload, 1) := F_Law_law_2712.2.2.2.2.2.2.2.2.2.2.2.2.2.2.2.2.2.2.2.2.2.2.2.2.2.2.2.1
theorem d_Law_law_2747 : decode code 2747 = .ok (.aload_n 0, 1) := F_Law_law_2712.2.2.2.2.2.2.2.2.2.2.2.2.2.2.2.2.2.2.2.2.2.2.2.2.2.2.2.2.1
theorem d_Law_law_2748 : decode code 2748 = .ok (.iload 4, 2) := F_Law_law_2712.2.2.2.2.2.2.2.2.2.2.2.2.2.2.2.2.2.2.2.2.2.2.2.2.2.2.2.2.2.1
theorem d_Law_law_2750 : decode code 2750 = .ok (.iconst 3, 1) := F_Law_law_2712.2.2.2.2.2.2.2.2.2.2.2.2.2.2.2.2.2.2.2.2.2.2.2.2.2.2.2.2.2.2.1
theorem d_Law_law_2751 : decode code 2751 = .ok (.iadd, 1) := F_Law_law_2712.2.2.2.2.2.2.2.2.2.2.2.2.2.2.2.2.2.2.2.2.2.2.2.2.2.2.2.2.2.2.2.1
theorem F_Law_law_2752 : Jvm.Free.DS.Facts code 2752 [(.iaload, 1), (.invokevirtual 259, 3), (.if_icmp .eq (615), 3)] := Jvm.Free.DS.facts 2752 _ (by decide +kernel) (by decide +kernel)
theorem d_Law_law_2752 : decode code 2752 = .ok (.iaload, 1) := F_Law_law_2752.1
theorem d_Law_law_2753 : decode code 2753 = .ok (.invokevirtual 259, 3) := F_Law_law_2752.2.1
theorem d_Law_law_2756 : decode code 2756 = .ok (.if_icmp .eq (615), 3) := F_Law_law_2752.2.2.1
theorem F_Law_law_2761 : Jvm.Free.DS.Facts code 2761 [(.aload_n 1, 1), (.aload_n 0, 1), (.iload 4, 2), (.iconst 1, 1), (.iadd, 1), (.iaload, 1), (.aload_n 0, 1), (.iload 4, 2), (.iconst 2, 1), (.iadd, 1), (.iaload, 1), (.aload_n 0, 1), (.iload 4, 2), (.iconst 3, 1), (.iadd, 1), (.iaload, 1), (.invokevirtual 260, 3), (.aload_n 2, 1), (.aload_n 0, 1), (.iload 4, 2), (.iconst 1, 1), (.iadd, 1), (.iaload, 1), (.aload_n 0, 1), (.iload 4, 2), (.iconst 2, 1), (.iadd, 1), (.iaload, 1), (.aload_n 0, 1), (.iload 4, 2), (.iconst 3, 1), (.iadd, 1)] := Jvm.Free.DS.facts 2761 _ (by decide +kernel) (by decide +kernel)
theorem d_Law_law_2761 : decode code 2761 = .ok (.aload_n 1, 1) := F_Law_law_2761.1
theorem d_Law_law_2762 : decode code 2762 = .ok (.aload_n 0, 1) := F_Law_law_2761.2.1
theorem d_Law_law_2763 : decode code 2763 = .ok (.iload 4, 2) := F_Law_law_2761.2.2.1
theorem d_Law_law_2765 : decode code 2765 = .ok (.iconst 1, 1) := F_Law_law_2761.2.2.2.1
theorem d_Law_law_2766 : decode code 2766 = .ok (.iadd, 1) := F_Law_law_2761.2.2.2.2.1
theorem d_Law_law_2767 : decode code 2767 = .ok (.iaload, 1) := F_Law_law_2761.2.2.2.2.2.1
theorem d_Law_law_2768 : decode code 2768 = .ok (.aload_n 0, 1) := F_Law_law_2761.2.2.2.2.2.2.1
theorem d_Law_law_2769 : decode code 2769 = .ok (.iload 4, 2) := F_Law_law_2761.2.2.2.2.2.2.2.1
theorem d_Law_law_2771 : decode code 2771 = .ok (.iconst 2, 1) := F_Law_law_2761.2.2.2.2.2.2.2.2.1
theorem d_Law_law_2772 : decode code 2772 = .ok (.iadd, 1) := F_Law_law_2761.2.2.2.2.2.2.2.2.2.1
theorem d_Law_law_2773 : decode code 2773 = .ok (.iaload, 1) := F_Law_law_2761.2.2.2.2.2.2.2.2.2.2.1
theorem d_Law_law_2774 : decode code 2774 = .ok (.aload_n 0, 1) := F_Law_law_2761.2.2.2.2.2.2.2.2.2.2.2.1
theorem d_Law_law_2775 : decode code 2775 = .ok (.iload 4, 2) := F_Law_law_2761.2.2.2.2.2.2.2.2.2.2.2.2.1
theorem d_Law_law_2777 : decode code 2777 = .ok (.iconst 3, 1) := F_Law_law_2761.2.2.2.2.2.2.2.2.2.2.2.2.2.1
theorem d_Law_law_2778 : decode code 2778 = .ok (.iadd, 1) := F_Law_law_2761.2.2.2.2.2.2.2.2.2.2.2.2.2.2.1
theorem d_Law_law_2779 : decode code 2779 = .ok (.iaload, 1) := F_Law_law_2761.2.2.2.2.2.2.2.2.2.2.2.2.2.2.2.1
theorem d_Law_law_2780 : decode code 2780 = .ok (.invokevirtual 260, 3) := F_Law_law_2761.2.2.2.2.2.2.2.2.2.2.2.2.2.2.2.2.1
theorem d_Law_law_2783 : decode code 2783 = .ok (.aload_n 2, 1) := F_Law_law_2761.2.2.2.2.2.2.2.2.2.2.2.2.2.2.2.2.2.1
theorem d_Law_law_2784 : decode code 2784 = .ok (.aload_n 0, 1) := F_Law_law_2761.2.2.2.2.2.2.2.2.2.2.2.2.2.2.2.2.2.2.1
theorem d_Law_law_2785 : decode code 2785 = .ok (.iload 4, 2) := F_Law_law_2761.2.2.2.2.2.2.2.2.2.2.2.2.2.2.2.2.2.2.2.1
theorem d_Law_law_2787 : decode code 2787 = .ok (.iconst 1, 1) := F_Law_law_2761.2.2.2.2.2.2.2.2.2.2.2.2.2.2.2.2.2.2.2.2.1
theorem d_Law_law_2788 : decode code 2788 = .ok (.iadd, 1) := F_Law_law_2761.2.2.2.2.2.2.2.2.2.2.2.2.2.2.2.2.2.2.2.2.2.1
theorem d_Law_law_2789 : decode code 2789 = .ok (.iaload, 1) := F_Law_law_2761.2.2.2.2.2.2.2.2.2.2.2.2.2.2.2.2.2.2.2.2.2.2.1
theorem d_Law_law_2790 : decode code 2790 = .ok (.aload_n 0, 1) := F_Law_law_2761.2.2.2.2.2.2.2.2.2.2.2.2.2.2.2.2.2.2.2.2.2.2.2.1
theorem d_Law_law_2791 : decode code 2791 = .ok (.iload 4, 2) := F_Law_law_2761.2.2.2.2.2.2.2.2.2.2.2.2.2.2.2.2.2.2.2.2.2.2.2.2.1
theorem d_Law_law_2793 : decode code 2793 = .ok (.iconst 2, 1) := F_Law_law_2761.2.2.2.2.2.2.2.2.2.2.2.2.2.2.2.2.2.2.2.2.2.2.2.2.2.1
theorem d_Law_law_2794 : decode code 2794 = .ok (.iadd, 1) := F_Law_law_2761.2.2.2.2.2.2.2.2.2.2.2.2.2.2.2.2.2.2.2.2.2.2.2.2.2.2.1
theorem d_Law_law_2795 : decode code 2795 = .ok (.iaload, 1) := F_Law_law_2761.2.2.2.2.2.2.2.2.2.2.2.2.2.2.2.2.2.2.2.2.2.2.2.2.2.2.2.1
theorem d_Law_law_2796 : decode code 2796 = .ok (.aload_n 0, 1) := F_Law_law_2761.2.2.2.2.2.2.2.2.2.2.2.2.2.2.2.2.2.2.2.2.2.2.2.2.2.2.2.2.1
theorem d_Law_law_2797 : decode code 2797 = .ok (.iload 4, 2) := F_Law_law_2761.2.2.2.2.2.2.2.2.2.2.2.2.2.2.2.2.2.2.2.2.2.2.2.2.2.2.2.2.2.1
theorem d_Law_law_2799 : decode code 2799 = .ok (.iconst 3, 1) := F_Law_law_2761.2.2.2.2.2.2.2.2.2.2.2.2.2.2.2.2.2.2.2.2.2.2.2.2.2.2.2.2.2.2.1
theorem d_Law_law_2800 : decode code 2800 = .ok (.iadd, 1) := F_Law_law_2761.2.2.2.2.2.2.2.2.2.2.2.2.2.2.2.2.2.2.2.2.2.2.2.2.2.2.2.2.2.2.2.1
theorem F_Law_law_2801 : Jvm.Free.DS.Facts code 2801 [(.iaload, 1), (.invokevirtual 263, 3), (.lcmp, 1), (.ifCond .eq (565), 3)] := Jvm.Free.DS.facts 2801 _ (by decide +kernel) (by decide +kernel)
theorem d_Law_law_2801 : decode code 2801 = .ok (.iaload, 1) := F_Law_law_2801.1
theorem d_Law_law_2802 : decode code 2802 = .ok (.invokevirtual 263, 3) := F_Law_law_2801.2.1
theorem d_Law_law_2805 : decode code 2805 = .ok (.lcmp, 1) := F_Law_law_2801.2.2.1
theorem d_Law_law_2806 : decode code 2806 = .ok (.ifCond .eq (565), 3) := F_Law_law_2801.2.2.2.1
theorem F_Law_law_2811 : Jvm.Free.DS.Facts code 2811 [(.aload_n 1, 1), (.aload_n 0, 1), (.iload 4, 2), (.iconst 1, 1), (.iadd, 1), (.iaload, 1), (.aload_n 0, 1), (.iload 4, 2), (.iconst 2, 1), (.iadd, 1), (.iaload, 1), (.aload_n 0, 1), (.iload 4, 2), (.iconst 3, 1), (.iadd, 1), (.iaload, 1), (.invokevirtual 264, 3), (.aload_n 2, 1), (.aload_n 0, 1), (.iload 4, 2), (.iconst 1, 1), (.iadd, 1), (.iaload, 1), (.aload_n 0, 1), (.iload 4, 2), (.iconst 2, 1), (.iadd, 1), (.iaload, 1), (.aload_n 0, 1), (.iload 4, 2), (.iconst 3, 1), (.iadd, 1)] := Jvm.Free.DS.facts 2811 _ (by decide +kernel) (by decide +kernel)
theorem d_Law_law_2811 : decode code 2811 = .ok (.aload_n 1, 1) := F_Law_law_2811.1
theorem d_Law_law_2812 : decode code 2812 = .ok (.aload_n 0, 1) := F_Law_law_2811.2.1
theorem d_Law_law_2813 : decode code 2813 = .ok (.iload 4, 2) := F_Law_law_2811.2.2.1
theorem d_Law_law_2815 : decode code 2815 = .ok (.iconst 1, 1) := F_Law_law_2811.2.2.2.1
theorem d_Law_law_2816 : decode code 2816 = .ok (.iadd, 1) := F_Law_law_2811.2.2.2.2.1
theorem d_Law_law_2817 : decode code 2817 = .ok (.iaload, 1) := F_Law_law_2811.2.2.2.2.2.1
theorem d_Law_law_2818 : decode code 2818 = .ok (.aload_n 0, 1) := F_Law_law_2811.2.2.2.2.2.2.1
theorem d_Law_law_2819 : decode code 2819 = .ok (.iload 4, 2) := F_Law_law_2811.2.2.2.2.2.2.2.1
theorem d_Law_law_2821 : decode code 2821 = .ok (.iconst 2, 1) := F_Law_law_2811.2.2.2.2.2.2.2.2.1
theorem d_Law_law_2822 : decode code 2822 = .ok (.iadd, 1) := F_Law_law_2811.2.2.2.2.2.2.2.2.2.1
theorem d_Law_law_2823 : decode code 2823 = .ok (.iaload, 1) := F_Law_law_2811.2.2.2.2.2.2.2.2.2.2.1
theorem d_Law_law_2824 : decode code 2824 = .ok (.aload_n 0, 1) := F_Law_law_2811.2.2.2.2.2.2.2.2.2.2.2.1
theorem d_Law_law_2825 : decode code 2825 = .ok (.iload 4, 2) := F_Law_law_2811.2.2.2.2.2.2.2.2.2.2.2.2.1
theorem d_Law_law_2827 : decode code 2827 = .ok (.iconst 3, 1) := F_Law_law_2811.2.2.2.2.2.2.2.2.2.2.2.2.2.1
theorem d_Law_law_2828 : decode code 2828 = .ok (.iadd, 1) := F_Law_law_2811.2.2.2.2.2.2.2.2.2.2.2.2.2.2.1
theorem d_Law_law_2829 : decode code 2829 = .ok (.iaload, 1) := F_Law_law_2811.2.2.2.2.2.2.2.2.2.2.2.2.2.2.2.1
theorem d_Law_law_2830 : decode code 2830 = .ok (.invokevirtual 264, 3) := F_Law_law_2811.2.2.2.2.2.2.2.2.2.2.2.2.2.2.2.2.1
theorem d_Law_law_2833 : decode code 2833 = .ok (.aload_n 2, 1) := F_Law_law_2811.2.2.2.2.2.2.2.2.2.2.2.2.2.2.2.2.2.1
theorem d_Law_law_2834 : decode code 2834 = .ok (.aload_n 0, 1) := F_Law_law_2811.2.2.2.2.2.2.2.2.2.2.2.2.2.2.2.2.2.2.1
theorem d_Law_law_2835 : decode code 2835 = .ok (.iload 4, 2) := F_Law_law_2811.2.2.2.2.2.2.2.2.2.2.2.2.2.2.2.2.2.2.2.1
theorem d_Law_law_2837 : decode code 2837 = .ok (.iconst 1, 1) := F_Law_law_2811.2.2.2.2.2.2.2.2.2.2.2.2.2.2.2.2.2.2.2.2.1
theorem d_Law_law_2838 : decode code 2838 = .ok (.iadd, 1) := F_Law_law_2811.2.2.2.2.2.2.2.2.2.2.2.2.2.2.2.2.2.2.2.2.2.1
theorem d_Law_law_2839 : decode code 2839 = .ok (.iaload, 1) := F_Law_law_2811.2.2.2.2.2.2.2.2.2.2.2.2.2.2.2.2.2.2.2.2.2.2.1
theorem d_Law_law_2840 : decode code 2840 = .ok (.aload_n 0, 1) := F_Law_law_2811.2.2.2.2.2.2.2.2.2.2.2.2.2.2.2.2.2.2.2.2.2.2.2.1
theorem d_Law_law_2841 : decode code 2841 = .ok (.iload 4, 2) := F_Law_law_2811.2.2.2.2.2.2.2.2.2.2.2.2.2.2.2.2.2.2.2.2.2.2.2.2.1
theorem d_Law_law_2843 : decode code 2843 = .ok (.iconst 2, 1) := F_Law_law_2811.2.2.2.2.2.2.2.2.2.2.2.2.2.2.2.2.2.2.2.2.2.2.2.2.2.1
theorem d_Law_law_2844 : decode code 2844 = .ok (.iadd, 1) := F_Law_law_2811.2.2.2.2.2.2.2.2.2.2.2.2.2.2.2.2.2.2.2.2.2.2.2.2.2.2.1
theorem d_Law_law_2845 : decode code 2845 = .ok (.iaload, 1) := F_Law_law_2811.2.2.2.2.2.2.2.2.2.2.2.2.2.2.2.2.2.2.2.2.2.2.2.2.2.2.2.1
theorem d_Law_law_2846 : decode code 2846 = .ok (.aload_n 0, 1) := F_Law_law_2811.2.2.2.2.2.2.2.2.2.2.2.2.2.2.2.2.2.2.2.2.2.2.2.2.2.2.2.2.1
theorem d_Law_law_2847 : decode code 2847 = .ok (.iload 4, 2) := F_Law_law_2811.2.2.2.2.2.2.2.2.2.2.2.2.2.2.2.2.2.2.2.2.2.2.2.2.2.2.2.2.2.1
theorem d_Law_law_2849 : decode code 2849 = .ok (.iconst 3, 1) := F_Law_law_2811.2.2.2.2.2.2.2.2.2.2.2.2.2.2.2.2.2.2.2.2.2.2.2.2.2.2.2.2.2.2.1
theorem d_Law_law_2850 : decode code 2850 = .ok (.iadd, 1) := F_Law_law_2811.2.2.2.2.2.2.2.2.2.2.2.2.2.2.2.2.2.2.2.2.2.2.2.2.2.2.2.2.2.2.2.1
theorem F_Law_law_2851 : Jvm.Free.DS.Facts code 2851 [(.iaload, 1), (.invokevirtual 267, 3), (.lcmp, 1), (.ifCond .eq (515), 3)] := Jvm.Free.DS.facts 2851 _ (by decide +kernel) (by decide +kernel)
theorem d_Law_law_2851 : decode code 2851 = .ok (.iaload, 1) := F_Law_law_2851.1
theorem d_Law_law_2852 : decode code 2852 = .ok (.invokevirtual 267, 3) := F_Law_law_2851.2.1
theorem d_Law_law_2855 : decode code 2855 = .ok (.lcmp, 1) := F_Law_law_2851.2.2.1
theorem d_Law_law_2856 : decode code 2856 = .ok (.ifCond .eq (515), 3) := F_Law_law_2851.2.2.2.1
theorem F_Law_law_2861 : Jvm.Free.DS.Facts code 2861 [(.aload_n 1, 1), (.aload_n 0, 1), (.iload 4, 2), (.iconst 1, 1), (.iadd, 1), (.iaload, 1), (.invokevirtual 268, 3), (.aload_n 2, 1), (.aload_n 0, 1), (.iload 4, 2), (.iconst 1, 1), (.iadd, 1), (.iaload, 1), (.invokevirtual 271, 3), (.if_icmp .eq (490), 3)] := Jvm.Free.DS.facts 2861 _ (by decide +kernel) (by decide +kernel)
theorem d_Law_law_2861 : decode code 2861 = .ok (.aload_n 1, 1) := F_Law_law_2861.1
theorem d_Law_law_2862 : decode code 2862 = .ok (.aload_n 0, 1) := F_Law_law_2861.2.1
theorem d_Law_law_2863 : decode code 2863 = .ok (.iload 4, 2) := F_Law_law_2861.2.2.1
theorem d_Law_law_2865 : decode code 2865 = .ok (.iconst 1, 1) := F_Law_law_2861.2.2.2.1
theorem d_Law_law_2866 : decode code 2866 = .ok (.iadd, 1) := F_Law_law_2861.2.2.2.2.1
theorem d_Law_law_2867 : decode code 2867 = .ok (.iaload, 1) := F_Law_law_2861.2.2.2.2.2.1
theorem d_Law_law_2868 : decode code 2868 = .ok (.invokevirtual 268, 3) := F_Law_law_2861.2.2.2.2.2.2.1
theorem d_Law_law_2871 : decode code 2871 = .ok (.aload_n 2, 1) := F_Law_law_2861.2.2.2.2.2.2.2.1
theorem d_Law_law_2872 : decode code 2872 = .ok (.aload_n 0, 1) := F_Law_law_2861.2.2.2.2.2.2.2.2.1
theorem d_Law_law_2873 : decode code 2873 = .ok (.iload 4, 2) := F_Law_law_2861.2.2.2.2.2.2.2.2.2.1
theorem d_Law_law_2875 : decode code 2875 = .ok (.iconst 1, 1) := F_Law_law_2861.2.2.2.2.2.2.2.2.2.2.1
theorem d_Law_law_2876 : decode code 2876 = .ok (.iadd, 1) := F_Law_law_2861.2.2.2.2.2.2.2.2.2.2.2.1
theorem d_Law_law_2877 : decode code 2877 = .ok (.iaload, 1) := F_Law_law_2861.2.2.2.2.2.2.2.2.2.2.2.2.1
theorem d_Law_law_2878 : decode code 2878 = .ok (.invokevirtual 271, 3) := F_Law_law_2861.2.2.2.2.2.2.2.2.2.2.2.2.2.1
theorem d_Law_law_2881 : decode code 2881 = .ok (.if_icmp .eq (490), 3) := F_Law_law_2861.2.2.2.2.2.2.2.2.2.2.2.2.2.2.1
theorem F_Law_law_2886 : Jvm.Free.DS.Facts code 2886 [(.aload_n 1, 1), (.aload_n 0, 1), (.iload 4, 2), (.iconst 1, 1), (.iadd, 1), (.iaload, 1), (.aload_n 0, 1), (.iload 4, 2), (.iconst 2, 1), (.iadd, 1), (.iaload, 1), (.aload_n 0, 1), (.iload 4, 2), (.iconst 3, 1), (.iadd, 1), (.iaload, 1), (.aload_n 0, 1), (.iload 4, 2), (.iconst 4, 1), (.iadd, 1), (.iaload, 1), (.invokevirtual 272, 3), (.aload_n 2, 1), (.aload_n 0, 1), (.iload 4, 2), (.iconst 1, 1), (.iadd, 1), (.iaload, 1), (.aload_n 0, 1), (.iload 4, 2), (.iconst 2, 1), (.iadd, 1)] := Jvm.Free.DS.facts 2886 _ (by decide +kernel) (by decide +kernel)
theorem d_Law_law_2886 : decode code 2886 = .ok (.aload_n 1, 1) := F_Law_law_2886.1
theorem d_Law_law_2887 : decode code 2887 = .ok (.aload_n 0, 1) := F_Law_law_2886.2.1
theorem d_Law_law_2888 : decode code 2888 = .ok (.iload 4, 2) := F_Law_law_2886.2.2.1
theorem d_Law_law_2890 : decode code 2890 = .ok (.iconst 1, 1) := F_Law_law_2886.2.2.2.1
theorem d_Law_law_2891 : decode code 2891 = .ok (.iadd, 1) := F_Law_law_2886.2.2.2.2.1
theorem d_Law_law_2892 : decode code 2892 = .ok (.iaload, 1) := F_Law_law_2886.2.2.2.2.2.1
theorem d_Law_law_2893 : decode code 2893 = .ok (.aload_n 0, 1) := F_Law_law_2886.2.2.2.2.2.2.1
theorem d_Law_law_2894 : decode code 2894 = .ok (.iload 4, 2) := F_Law_law_2886.2.2.2.2.2.2.2.1
theorem d_Law_law_2896 : decode code 2896 = .ok (.iconst 2, 1) := F_Law_law_2886.2.2.2.2.2.2.2.2.1
theorem d_Law_law_2897 : decode code 2897 = .ok (.iadd, 1) := F_Law_law_2886.2.2.2.2.2.2.2.2.2.1
theorem d_Law_law_2898 : decode code 2898 = .ok (.iaload, 1) := F_Law_law_2886.2.2.2.2.2.2.2.2.2.2.1
theorem d_Law_law_2899 : decode code 2899 = .ok (.aload_n 0, 1) := F_Law_law_2886.2.2.2.2.2.2.2.2.2.2.2.1
theorem d_Law_law_2900 : decode code 2900 = .ok (.iload 4, 2) := F_Law_law_2886.2.2.2.2.2.2.2.2.2.2.2.2.1
theorem d_Law_law_2902 : decode code 2902 = .ok (.iconst 3, 1) := F_Law_law_2886.2.2.2.2.2.2.2.2.2.2.2.2.2.1
theorem d_Law_law_2903 : decode code 2903 = .ok (.iadd, 1) := F_Law_law_2886.2.2.2.2.2.2.2.2.2.2.2.2.2.2.1
theorem d_Law_law_2904 : decode code 2904 = .ok (.iaload, 1) := F_Law_law_2886.2.2.2.2.2.2.2.2.2.2.2.2.2.2.2.1
theorem d_Law_law_2905 : decode code 2905 = .ok (.aload_n 0, 1) := F_Law_law_2886.2.2.2.2.2.2.2.2.2.2.2.2.2.2.2.2.1
theorem d_Law_law_2906 : decode code 2906 = .ok (.iload 4, 2) := F_Law_law_2886.2.2.2.2.2.2.2.2.2.2.2.2.2.2.2.2.2.1
theorem d_Law_law_2908 : decode code 2908 = .ok (.iconst 4, 1) := F_Law_law_2886.2.2.2.2.2.2.2.2.2.2.2.2.2.2.2.2.2.2.1
theorem d_Law_law_2909 : decode code 2909 = .ok (.iadd, 1) := F_Law_law_2886.2.2.2.2.2.2.2.2.2.2.2.2.2.2.2.2.2.2.2.1
theorem d_Law_law_2910 : decode code 2910 = .ok (.iaload, 1) := F_Law_law_2886.2.2.2.2.2.2.2.2.2.2.2.2.2.2.2.2.2.2.2.2.1
theorem d_Law_law_2911 : decode code 2911 = .ok (.invokevirtual 272, 3) := F_Law_law_2886.2.2.2.2.2.2.2.2.2.2.2.2.2.2.2.2.2.2.2.2.2.1
theorem d_Law_law_2914 : decode code 2914 = .ok (.aload_n 2, 1) := F_Law_law_2886.2.2.2.2.2.2.2.2.2.2.2.2.2.2.2.2.2.2.2.2.2.2.1
theorem d_Law_law_2915 : decode code 2915 = .ok (.aload_n 0, 1) := F_Law_law_2886.2.2.2.2.2.2.2.2.2.2.2.2.2.2.2.2.2.2.2.2.2.2.2.1
theorem d_Law_law_2916 : decode code 2916 = .ok (.iload 4, 2) := F_Law_law_2886.2.2.2.2.2.2.2.2.2.2.2.2.2.2.2.2.2.2.2.2.2.2.2.2.1
theorem d_Law_law_2918 : decode code 2918 = .ok (.iconst 1, 1) := F_Law_law_2886.2.2.2.2.2.2.2.2.2.2.2.2.2.2.2.2.2.2.2.2.2.2.2.2.2.1
theorem d_Law_law_2919 : decode code 2919 = .ok (.iadd, 1) := F_Law_law_2886.2.2.2.2.2.2.2.2.2.2.2.2.2.2.2.2.2.2.2.2.2.2.2.2.2.2.1
theorem d_Law_law_2920 : decode code 2920 = .ok (.iaload, 1) := F_Law_law_2886.2.2.2.2.2.2.2.2.2.2.2.2.2.2.2.2.2.2.2.2.2.2.2.2.2.2.2.1
theorem d_Law_law_2921 : decode code 2921 = .ok (.aload_n 0, 1) := F_Law_law_2886.2.2.2.2.2.2.2.2.2.2.2.2.2.2.2.2.2.2.2.2.2.2.2.2.2.2.2.2.1
theorem d_Law_law_2922 : decode code 2922 = .ok (.iload 4, 2) := F_Law_law_2886.2.2.2.2.2.2.2.2.2.2.2.2.2.2.2.2.2.2.2.2.2.2.2.2.2.2.2.2.2.1
theorem d_Law_law_2924 : decode code 2924 = .ok (.iconst 2, 1) := F_Law_law_2886.2.2.2.2.2.2.2.2.2.2.2.2.2.2.2.2.2.2.2.2.2.2.2.2.2.2.2.2.2.2.1
theorem d_Law_law_2925 : decode code 2925 = .ok (.iadd, 1) := F_Law_law_2886.2.2.2.2.2.2.2.2.2.2.2.2.2.2.2.2.2.2.2.2.2.2.2.2.2.2.2.2.2.2.2.1
theorem F_Law_law_2926 : Jvm.Free.DS.Facts code 2926 [(.iaload, 1), (.aload_n 0, 1), (.iload 4, 2), (.iconst 3, 1), (.iadd, 1), (.iaload, 1), (.aload_n 0, 1), (.iload 4, 2), (.iconst 4, 1), (.iadd, 1), (.iaload, 1), (.invokevirtual 275, 3), (.lcmp, 1), (.ifCond .eq (428), 3)] := Jvm.Free.DS.facts 2926 _ (by decide +kernel) (by decide +kernel)
theorem d_Law_law_2926 : decode code 2926 = .ok (.iaload, 1) := F_Law_law_2926.1
theorem d_Law_law_2927 : decode code 2927 = .ok (.aload_n 0, 1) := F_Law_law_2926.2.1
theorem d_Law_law_2928 : decode code 2928 = .ok (.iload 4, 2) := F_Law_law_2926.2.2.1
theorem d_Law_law_2930 : decode code 2930 = .ok (.iconst 3, 1) := F_Law_law_2926.2.2.2.1
theorem d_Law_law_2931 : decode code 2931 = .ok (.iadd, 1) := F_Law_law_2926.2.2.2.2.1
theorem d_Law_law_2932 : decode code 2932 = .ok (.iaload, 1) := F_Law_law_2926.2.2.2.2.2.1
theorem d_Law_law_2933 : decode code 2933 = .ok (.aload_n 0, 1) := F_Law_law_2926.2.2.2.2.2.2.1
theorem d_Law_law_2934 : decode code 2934 = .ok (.iload 4, 2) := F_Law_law_2926.2.2.2.2.2.2.2.1
theorem d_Law_law_2936 : decode code 2936 = .ok (.iconst 4, 1) := F_Law_law_2926.2.2.2.2.2.2.2.2.1
theorem d_Law_law_2937 : decode code 2937 = .ok (.iadd, 1) := F_Law_law_2926.2.2.2.2.2.2.2.2.2.1
theorem d_Law_law_2938 : decode code 2938 = .ok (.iaload, 1) := F_Law_law_2926.2.2.2.2.2.2.2.2.2.2.1
theorem d_Law_law_2939 : decode code 2939 = .ok (.invokevirtual 275, 3) := F_Law_law_2926.2.2.2.2.2.2.2.2.2.2.2.1
theorem d_Law_law_2942 : decode code 2942 = .ok (.lcmp, 1) := F_Law_law_2926.2.2.2.2.2.2.2.2.2.2.2.2.1
theorem d_Law_law_2943 : decode code 2943 = .ok (.ifCond .eq (428), 3) := F_Law_law_2926.2.2.2.2.2.2.2.2.2.2.2.2.2.1
theorem F_Law_law_2948 : Jvm.Free.DS.Facts code 2948 [(.aload_n 1, 1), (.aload_n 0, 1), (.iload 4, 2), (.iconst 1, 1), (.iadd, 1), (.iaload, 1), (.aload_n 0, 1), (.iload 4, 2), (.iconst 2, 1), (.iadd, 1), (.iaload, 1), (.invokevirtual 276, 3), (.aload_n 2, 1), (.aload_n 0, 1), (.iload 4, 2), (.iconst 1, 1), (.iadd, 1), (.iaload, 1), (.aload_n 0, 1), (.iload 4, 2), (.iconst 2, 1), (.iadd, 1), (.iaload, 1), (.invokevirtual 279, 3), (.lcmp, 1), (.ifCond .eq (390), 3)] := Jvm.Free.DS.facts 2948 _ (by decide +kernel) (by decide +kernel)
theorem d_Law_law_2948 : decode code 2948 = .ok (.aload_n 1, 1) := F_Law_law_2948.1
theorem d_Law_law_2949 : decode code 2949 = .ok (.aload_n 0, 1) := F_Law_law_2948.2.1
theorem d_Law_law_2950 : decode code 2950 = .ok (.iload 4, 2) := F_Law_law_2948.2.2.1
theorem d_Law_law_2952 : decode code 2952 = .ok (.iconst 1, 1) := F_Law_law_2948.2.2.2.1
theorem d_Law_law_2953 : decode code 2953 = .ok (.iadd, 1) := F_Law_law_2948.2.2.2.2.1
theorem d_Law_law_2954 : decode code 2954 = .ok (.iaload, 1) := F_Law_law_2948.2.2.2.2.2.1
theorem d_Law_law_2955 : decode code 2955 = .ok (.aload_n 0, 1) := F_Law_law_2948.2.2.2.2.2.2.1
theorem d_Law_law_2956 : decode code 2956 = .ok (.iload 4, 2) := F_Law_law_2948.2.2.2.2.2.2.2.1
theorem d_Law_law_2958 : decode code 2958 = .ok (.iconst 2, 1) := F_Law_law_2948.2.2.2.2.2.2.2.2.1
theorem d_Law_law_2959 : decode code 2959 = .ok (.iadd, 1) := F_Law_law_2948.2.2.2.2.2.2.2.2.2.1
theorem d_Law_law_2960 : decode code 2960 = .ok (.iaload, 1) := F_Law_law_2948.2.2.2.2.2.2.2.2.2.2.1
theorem d_Law_law_2961 : decode code 2961 = .ok (.invokevirtual 276, 3) := F_Law_law_2948.2.2.2.2.2.2.2.2.2.2.2.1
theorem d_Law_law_2964 : decode code 2964 = .ok (.aload_n 2, 1) := F_Law_law_2948.2.2.2.2.2.2.2.2.2.2.2.2.1
theorem d_Law_law_2965 : decode code 2965 = .ok (.aload_n 0, 1) := F_Law_law_2948.2.2.2.2.2.2.2.2.2.2.2.2.2.1
theorem d_Law_law_2966 : decode code 2966 = .ok (.iload 4, 2) := F_Law_law_2948.2.2.2.2.2.2.2.2.2.2.2.2.2.2.1
theorem d_Law_law_2968 : decode code 2968 = .ok (.iconst 1, 1) := F_Law_law_2948.2.2.2.2.2.2.2.2.2.2.2.2.2.2.2.1
theorem d_Law_law_2969 : decode code 2969 = .ok (.iadd, 1) := F_Law_law_2948.2.2.2.2.2.2.2.2.2.2.2.2.2.2.2.2.1
theorem d_Law_law_2970 : decode code 2970 = .ok (.iaload, 1) := F_Law_law_2948.2.2.2.2.2.2.2.2.2.2.2.2.2.2.2.2.2.1
theorem d_Law_law_2971 : decode code 2971 = .ok (.aload_n 0, 1) := F_Law_law_2948.2.2.2.2.2.2.2.2.2.2.2.2.2.2.2.2.2.2.1
theorem d_Law_law_2972 : decode code 2972 = .ok (.iload 4, 2) := F_Law_law_2948.2.2.2.2.2.2.2.2.2.2.2.2.2.2.2.2.2.2.2.1
theorem d_Law_law_2974 : decode code 2974 = .ok (.iconst 2, 1) := F_Law_law_2948.2.2.2.2.2.2.2.2.2.2.2.2.2.2.2.2.2.2.2.2.1
theorem d_Law_law_2975 : decode code 2975 = .ok (.iadd, 1) := F_Law_law_2948.2.2.2.2.2.2.2.2.2.2.2.2.2.2.2.2.2.2.2.2.2.1
theorem d_Law_law_2976 : decode code 2976 = .ok (.iaload, 1) := F_Law_law_2948.2.2.2.2.2.2.2.2.2.2.2.2.2.2.2.2.2.2.2.2.2.2.1
theorem d_Law_law_2977 : decode code 2977 = .ok (.invokevirtual 279, 3) := F_Law_law_2948.2.2.2.2.2.2.2.2.2.2.2.2.2.2.2.2.2.2.2.2.2.2.2.1
theorem d_Law_law_2980 : decode code 2980 = .ok (.lcmp, 1) := F_Law_law_2948.2.2.2.2.2.2.2.2.2.2.2.2.2.2.2.2.2.2.2.2.2.2.2.2.1
theorem d_Law_law_2981 : decode code 2981 = .ok (.ifCond .eq (390), 3) := F_Law_law_2948.2.2.2.2.2.2.2.2.2.2.2.2.2.2.2.2.2.2.2.2.2.2.2.2.2.1
theorem F_Law_law_2986 : Jvm.Free.DS.Facts code 2986 [(.aload_n 1, 1), (.aload_n 0, 1), (.iload 4, 2), (.iconst 1, 1), (.iadd, 1), (.iaload, 1), (.aload_n 0, 1), (.iload 4, 2), (.iconst 2, 1), (.iadd, 1), (.iaload, 1), (.aload_n 0, 1), (.iload 4, 2), (.iconst 3, 1), (.iadd, 1), (.iaload, 1), (.invokevirtual 280, 3), (.aload_n 2, 1), (.aload_n 0, 1), (.iload 4, 2), (.iconst 1, 1), (.iadd, 1), (.iaload, 1), (.aload_n 0, 1), (.iload 4, 2), (.iconst 2, 1), (.iadd, 1), (.iaload, 1), (.aload_n 0, 1), (.iload 4, 2), (.iconst 3, 1), (.iadd, 1)] := Jvm.Free.DS.facts 2986 _ (by decide +kernel) (by decide +kernel)
theorem d_Law_law_2986 : decode code 2986 = .ok (.aload_n 1, 1) := F_Law_law_2986.1
theorem d_Law_law_2987 : decode code 2987 = .ok (.aload_n 0, 1) := F_Law_law_2986.2.1
theorem d_Law_law_2988 : decode code 2988 = .ok (.iload 4, 2) := F_Law_law_2986.2.2.1
theorem d_Law_law_2990 : decode code 2990 = .ok (.iconst 1, 1) := F_Law_law_2986.2.2.2.1
theorem d_Law_law_2991 : decode code 2991 = .ok (.iadd, 1) := F_Law_law_2986.2.2.2.2.1
theorem d_Law_law_2992 : decode code 2992 = .ok (.iaload, 1) := F_Law_law_2986.2.2.2.2.2.1
theorem d_Law_law_2993 : decode code 2993 = .ok (.aload_n 0, 1) := F_Law_law_2986.2.2.2.2.2.2.1
theorem d_Law_law_2994 : decode code 2994 = .ok (.iload 4, 2) := F_Law_law_2986.2.2.2.2.2.2.2.1
theorem d_Law_law_2996 : decode code 2996 = .ok (.iconst 2, 1) := F_Law_law_2986.2.2.2.2.2.2.2.2.1
theorem d_Law_law_2997 : decode code 2997 = .ok (.iadd, 1) := F_Law_law_2986.2.2.2.2.2.2.2.2.2.1
theorem d_Law_law_2998 : decode code 2998 = .ok (.iaload, 1) := F_Law_law_2986.2.2.2.2.2.2.2.2.2.2.1
theorem d_Law_law_2999 : decode code 2999 = .ok (.aload_n 0, 1) := F_Law_law_2986.2.2.2.2.2.2.2.2.2.2.2.1
theorem d_Law_law_3000 : decode code 3000 = .ok (.iload 4, 2) := F_Law_law_2986.2.2.2.2.2.2.2.2.2.2.2.2.1
theorem d_Law_law_3002 : decode code 3002 = .ok (.iconst 3, 1) := F_Law_law_2986.2.2.2.2.2.2.2.2.2.2.2.2.2.1
theorem d_Law_law_3003 : decode code 3003 = .ok (.iadd, 1) := F_Law_law_2986.2.2.2.2.2.2.2.2.2.2.2.2.2.2.1
theorem d_Law_law_3004 : decode code 3004 = .ok (.iaload, 1) := F_Law_law_2986.2.2.2.2.2.2.2.2.2.2.2.2.2.2.2.1
theorem d_Law_law_3005 : decode code 3005 = .ok (.invokevirtual 280, 3) := F_Law_law_2986.2.2.2.2.2.2.2.2.2.2.2.2.2.2.2.2.1
theorem d_Law_law_3008 : decode code 3008 = .ok (.aload_n 2, 1) := F_Law_law_2986.2.2.2.2.2.2.2.2.2.2.2.2.2.2.2.2.2.1
theorem d_Law_law_3009 : decode code 3009 = .ok (.aload_n 0, 1) := F_Law_law_2986.2.2.2.2.2.2.2.2.2.2.2.2.2.2.2.2.2.2.1
theorem d_Law_law_3010 : decode code 3010 = .ok (.iload 4, 2) := F_Law_law_2986.2.2.2.2.2.2.2.2.2.2.2.2.2.2.2.2.2.2.2.1
theorem d_Law_law_3012 : decode code 3012 = .ok (.iconst 1, 1) := F_Law_law_2986.2.2.2.2.2.2.2.2.2.2.2.2.2.2.2.2.2.2.2.2.1
theorem d_Law_law_3013 : decode code 3013 = .ok (.iadd, 1) := F_Law_law_2986.2.2.2.2.2.2.2.2.2.2.2.2.2.2.2.2.2.2.2.2.2.1
theorem d_Law_law_3014 : decode code 3014 = .ok (.iaload, 1) := F_Law_law_2986.2.2.2.2.2.2.2.2.2.2.2.2.2.2.2.2.2.2.2.2.2.2.1
theorem d_Law_law_3015 : decode code 3015 = .ok (.aload_n 0, 1) := F_Law_law_2986.2.2.2.2.2.2.2.2.2.2.2.2.2.2.2.2.2.2.2.2.2.2.2.1
theorem d_Law_law_3016 : decode code 3016 = .ok (.iload 4, 2) := F_Law_law_2986.2.2.2.2.2.2.2.2.2.2.2.2.2.2.2.2.2.2.2.2.2.2.2.2.1
theorem d_Law_law_3018 : decode code 3018 = .ok (.iconst 2, 1) := F_Law_law_2986.2.2.2.2.2.2.2.2.2.2.2.2.2.2.2.2.2.2.2.2.2.2.2.2.2.1
theorem d_Law_law_3019 : decode code 3019 = .ok (.iadd, 1) := F_Law_law_2986.2.2.2.2.2.2.2.2.2.2.2.2.2.2.2.2.2.2.2.2.2.2.2.2.2.2.1
theorem d_Law_law_3020 : decode code 3020 = .ok (.iaload, 1) := F_Law_law_2986.2.2.2.2.2.2.2.2.2.2.2.2.2.2.2.2.2.2.2.2.2.2.2.2.2.2.2.1
theorem d_Law_law_3021 : decode code 3021 = .ok (.aload_n 0, 1) := F_Law_law_2986.2.2.2.2.2.2.2.2.2.2.2.2.2.2.2.2.2.2.2.2.2.2.2.2.2.2.2.2.1
theorem d_Law_law_3022 : decode code 3022 = .ok (.iload 4, 2) := F_Law_law_2986.2.2.2.2.2.2.2.2.2.2.2.2.2.2.2.2.2.2.2.2.2.2.2.2.2.2.2.2.2.1
theorem d_Law_law_3024 : decode code 3024 = .ok (.iconst 3, 1) := F_Law_law_2986.2.2.2.2.2.2.2.2.2.2.2.2.2.2.2.2.2.2.2.2.2.2.2.2.2.2.2.2.2.2.1
theorem d_Law_law_3025 : decode code 3025 = .ok (.iadd, 1) := F_Law_law_2986.2.2.2.2.2.2.2.2.2.2.2.2.2.2.2.2.2.2.2.2.2.2.2.2.2.2.2.2.2.2.2.1
theorem F_Law_law_3026 : Jvm.Free.DS.Facts code 3026 [(.iaload, 1), (.invokevirtual 283, 3), (.if_icmp .eq (341), 3)] := Jvm.Free.DS.facts 3026 _ (by decide +kernel) (by decide +kernel)
theorem d_Law_law_3026 : decode code 3026 = .ok (.iaload, 1) := F_Law_law_3026.1
theorem d_Law_law_3027 : decode code 3027 = .ok (.invokevirtual 283, 3) := F_Law_law_3026.2.1
theorem d_Law_law_3030 : decode code 3030 = .ok (.if_icmp .eq (341), 3) := F_Law_law_3026.2.2.1
theorem F_Law_law_3035 : Jvm.Free.DS.Facts code 3035 [(.aload_n 1, 1), (.aload_n 0, 1), (.iload 4, 2), (.iconst 1, 1), (.iadd, 1), (.iaload, 1), (.aload_n 0, 1), (.iload 4, 2), (.iconst 2, 1), (.iadd, 1), (.iaload, 1), (.aload_n 0, 1), (.iload 4, 2), (.iconst 3, 1), (.iadd, 1), (.iaload, 1), (.invokevirtual 284, 3), (.aload_n 2, 1), (.aload_n 0, 1), (.iload 4, 2), (.iconst 1, 1), (.iadd, 1), (.iaload, 1), (.aload_n 0, 1), (.iload 4, 2), (.iconst 2, 1), (.iadd, 1), (.iaload, 1), (.aload_n 0, 1), (.iload 4, 2), (.iconst 3, 1), (.iadd, 1)] := Jvm.Free.DS.facts 3035 _ (by decide +kernel) (by decide +kernel)
theorem d_Law_law_3035 : decode code 3035 = .ok (.aload_n 1, 1) := F_Law_law_3035.1
theorem d_Law_law_3036 : decode code 3036 = .ok (.aload_n 0, 1) := F_Law_law_3035.2.1
theorem d_Law_law_3037 : decode code 3037 = .ok (.iload 4, 2) := F_Law_law_3035.2.2.1
theorem d_Law_law_3039 : decode code 3039 = .ok (.iconst 1, 1) := F_Law_law_3035.2.2.2.1
theorem d_Law_law_3040 : decode code 3040 = .ok (.iadd, 1) := F_Law_law_3035.2.2.2.2.1
theorem d_Law_law_3041 : decode code 3041 = .ok (.iaload, 1) := F_Law_law_3035.2.2.2.2.2.1
theorem d_Law_law_3042 : decode code 3042 = .ok (.aload_n 0, 1) := F_Law_law_3035.2.2.2.2.2.2.1
theorem d_Law_law_3043 : decode code 3043 = .ok (.iload 4, 2) := F_Law_law_3035.2.2.2.2.2.2.2.1
theorem d_Law_law_3045 : decode code 3045 = .ok (.iconst 2, 1) := F_Law_law_3035.2.2.2.2.2.2.2.2.1
theorem d_Law_law_3046 : decode code 3046 = .ok (.iadd, 1) := F_Law_law_3035.2.2.2.2.2.2.2.2.2.1
theorem d_Law_law_3047 : decode code 3047 = .ok (.iaload, 1) := F_Law_law_3035.2.2.2.2.2.2.2.2.2.2.1
theorem d_Law_law_3048 : decode code 3048 = .ok (.aload_n 0, 1) := F_Law_law_3035.2.2.2.2.2.2.2.2.2.2.2.1
theorem d_Law_law_3049 : decode code 3049 = .ok (.iload 4, 2) := F_Law_law_3035.2.2.2.2.2.2.2.2.2.2.2.2.1
theorem d_Law_law_3051 : decode code 3051 = .ok (.iconst 3, 1) := F_Law_law_3035.2.2.2.2.2.2.2.2.2.2.2.2.2.1
theorem d_Law_law_3052 : decode code 3052 = .ok (.iadd, 1) := F_Law_law_3035.2.2.2.2.2.2.2.2.2.2.2.2.2.2.1
theorem d_Law_law_3053 : decode code 3053 = .ok (.iaload, 1) := F_Law_law_3035.2.2.2.2.2.2.2.2.2.2.2.2.2.2.2.1
theorem d_Law_law_3054 : decode code 3054 = .ok (.invokevirtual 284, 3) := F_Law_law_3035.2.2.2.2.2.2.2.2.2.2.2.2.2.2.2.2.1
theorem d_Law_law_3057 : decode code 3057 = .ok (.aload_n 2, 1) := F_Law_law_3035.2.2.2.2.2.2.2.2.2.2.2.2.2.2.2.2.2.1
theorem d_Law_law_3058 : decode code 3058 = .ok (.aload_n 0, 1) := F_Law_law_3035.2.2.2.2.2.2.2.2.2.2.2.2.2.2.2.2.2.2.1
theorem d_Law_law_3059 : decode code 3059 = .ok (.iload 4, 2) := F_Law_law_3035.2.2.2.2.2.2.2.2.2.2.2.2.2.2.2.2.2.2.2.1
theorem d_Law_law_3061 : decode code 3061 = .ok (.iconst 1, 1) := F_Law_law_3035.2.2.2.2.2.2.2.2.2.2.2.2.2.2.2.2.2.2.2.2.1
theorem d_Law_law_3062 : decode code 3062 = .ok (.iadd, 1) := F_Law_law_3035.2.2.2.2.2.2.2.2.2.2.2.2.2.2.2.2.2.2.2.2.2.1
theorem d_Law_law_3063 : decode code 3063 = .ok (.iaload, 1) := F_Law_law_3035.2.2.2.2.2.2.2.2.2.2.2.2.2.2.2.2.2.2.2.2.2.2.1
theorem d_Law_law_3064 : decode code 3064 = .ok (.aload_n 0, 1) := F_Law_law_3035.2.2.2.2.2.2.2.2.2.2.2.2.2.2.2.2.2.2.2.2.2.2.2.1
theorem d_Law_law_3065 : decode code 3065 = .ok (.iload 4, 2) := F_Law_law_3035.2.2.2.2.2.2.2.2.2.2.2.2.2.2.2.2.2.2.2.2.2.2.2.2.1
theorem d_Law_law_3067 : decode code 3067 = .ok (.iconst 2, 1) := F_Law_law_3035.2.2.2.2.2.2.2.2.2.2.2.2.2.2.2.2.2.2.2.2.2.2.2.2.2.1
theorem d_Law_law_3068 : decode code 3068 = .ok (.iadd, 1) := F_Law_law_3035.2.2.2.2.2.2.2.2.2.2.2.2.2.2.2.2.2.2.2.2.2.2.2.2.2.2.1
theorem d_Law_law_3069 : decode code 3069 = .ok (.iaload, 1) := F_Law_law_3035.2.2.2.2.2.2.2.2.2.2.2.2.2.2.2.2.2.2.2.2.2.2.2.2.2.2.2.1
theorem d_Law_law_3070 : decode code 3070 = .ok (.aload_n 0, 1) := F_Law_law_3035.2.2.2.2.2.2.2.2.2.2.2.2.2.2.2.2.2.2.2.2.2.2.2.2.2.2.2.2.1
theorem d_Law_law_3071 : decode code 3071 = .ok (.iload 4, 2) := F_Law_law_3035.2.2.2.2.2.2.2.2.2.2.2.2.2.2.2.2.2.2.2.2.2.2.2.2.2.2.2.2.2.1
theorem d_Law_law_3073 : decode code 3073 = .ok (.iconst 3, 1) := F_Law_law_3035.2.2.2.2.2.2.2.2.2.2.2.2.2.2.2.2.2.2.2.2.2.2.2.2.2.2.2.2.2.2.1
theorem d_Law_law_3074 : decode code 3074 = .ok (.iadd, 1) := F_Law_law_3035.2.2.2.2.2.2.2.2.2.2.2.2.2.2.2.2.2.2.2.2.2.2.2.2.2.2.2.2.2.2.2.1
theorem F_Law_law_3075 : Jvm.Free.DS.Facts code 3075 [(.iaload, 1), (.invokevirtual 287, 3), (.if_icmp .eq (292), 3)] := Jvm.Free.DS.facts 3075 _ (by decide +kernel) (by decide +kernel)
theorem d_Law_law_3075 : decode code 3075 = .ok (.iaload, 1) := F_Law_law_3075.1
theorem d_Law_law_3076 : decode code 3076 = .ok (.invokevirtual 287, 3) := F_Law_law_3075.2.1
theorem d_Law_law_3079 : decode code 3079 = .ok (.if_icmp .eq (292), 3) := F_Law_law_3075.2.2.1
theorem F_Law_law_3084 : Jvm.Free.DS.Facts code 3084 [(.aload_n 1, 1), (.aload_n 0, 1), (.iload 4, 2), (.iconst 1, 1), (.iadd, 1), (.iaload, 1), (.aload_n 0, 1), (.iload 4, 2), (.iconst 2, 1), (.iadd, 1), (.iaload, 1), (.invokevirtual 288, 3), (.aload_n 2, 1), (.aload_n 0, 1), (.iload 4, 2), (.iconst 1, 1), (.iadd, 1), (.iaload, 1), (.aload_n 0, 1), (.iload 4, 2), (.iconst 2, 1), (.iadd, 1), (.iaload, 1), (.invokevirtual 291, 3), (.if_icmp .eq (255), 3)] := Jvm.Free.DS.facts 3084 _ (by decide +kernel) (by decide +kernel)
theorem d_Law_law_3084 : decode code 3084 = .ok (.aload_n 1, 1) := F_Law_law_3084.1
theorem d_Law_law_3085 : decode code 3085 = .ok (.aload_n 0, 1) := F_Law_law_3084.2.1
theorem d_Law_law_3086 : decode code 3086 = .ok (.iload 4, 2) := F_Law_law_3084.2.2.1
theorem d_Law_law_3088 : decode code 3088 = .ok (.iconst 1, 1) := F_Law_law_3084.2.2.2.1
theorem d_Law_law_3089 : decode code 3089 = .ok (.iadd, 1) := F_Law_law_3084.2.2.2.2.1
theorem d_Law_law_3090 : decode code 3090 = .ok (.iaload, 1) := F_Law_law_3084.2.2.2.2.2.1
theorem d_Law_law_3091 : decode code 3091 = .ok (.aload_n 0, 1) := F_Law_law_3084.2.2.2.2.2.2.1
theorem d_Law_law_3092 : decode code 3092 = .ok (.iload 4, 2) := F_Law_law_3084.2.2.2.2.2.2.2.1
theorem d_Law_law_3094 : decode code 3094 = .ok (.iconst 2, 1) := F_Law_law_3084.2.2.2.2.2.2.2.2.1
theorem d_Law_law_3095 : decode code 3095 = .ok (.iadd, 1) := F_Law_law_3084.2.2.2.2.2.2.2.2.2.1
theorem d_Law_law_3096 : decode code 3096 = .ok (.iaload, 1) := F_Law_law_3084.2.2.2.2.2.2.2.2.2.2.1
theorem d_Law_law_3097 : decode code 3097 = .ok (.invokevirtual 288, 3) := F_Law_law_3084.2.2.2.2.2.2.2.2.2.2.2.1
theorem d_Law_law_3100 : decode code 3100 = .ok (.aload_n 2, 1) := F_Law_law_3084.2.2.2.2.2.2.2.2.2.2.2.2.1
theorem d_Law_law_3101 : decode code 3101 = .ok (.aload_n 0, 1) := F_Law_law_3084.2.2.2.2.2.2.2.2.2.2.2.2.2.1
theorem d_Law_law_3102 : decode code 3102 = .ok (.iload 4, 2) := F_Law_law_3084.2.2.2.2.2.2.2.2.2.2.2.2.2.2.1
theorem d_Law_law_3104 : decode code 3104 = .ok (.iconst 1, 1) := F_Law_law_3084.2.2.2.2.2.2.2.2.2.2.2.2.2.2.2.1
theorem d_Law_law_3105 : decode code 3105 = .ok (.iadd, 1) := F_Law_law_3084.2.2.2.2.2.2.2.2.2.2.2.2.2.2.2.2.1
theorem d_Law_law_3106 : decode code 3106 = .ok (.iaload, 1) := F_Law_law_3084.2.2.2.2.2.2.2.2.2.2.2.2.2.2.2.2.2.1
theorem d_Law_law_3107 : decode code 3107 = .ok (.aload_n 0, 1) := F_Law_law_3084.2.2.2.2.2.2.2.2.2.2.2.2.2.2.2.2.2.2.1
theorem d_Law_law_3108 : decode code 3108 = .ok (.iload 4, 2) := F_Law_law_3084.2.2.2.2.2.2.2.2.2.2.2.2.2.2.2.2.2.2.2.1
theorem d_Law_law_3110 : decode code 3110 = .ok (.iconst 2, 1) := F_Law_law_3084.2.2.2.2.2.2.2.2.2.2.2.2.2.2.2.2.2.2.2.2.1
theorem d_Law_law_3111 : decode code 3111 = .ok (.iadd, 1) := F_Law_law_3084.2.2.2.2.2.2.2.2.2.2.2.2.2.2.2.2.2.2.2.2.2.1
theorem d_Law_law_3112 : decode code 3112 = .ok (.iaload, 1) := F_Law_law_3084.2.2.2.2.2.2.2.2.2.2.2.2.2.2.2.2.2.2.2.2.2.2.1
theorem d_Law_law_3113 : decode code 3113 = .ok (.invokevirtual 291, 3) := F_Law_law_3084.2.2.2.2.2.2.2.2.2.2.2.2.2.2.2.2.2.2.2.2.2.2.2.1
theorem d_Law_law_3116 : decode code 3116 = .ok (.if_icmp .eq (255), 3) := F_Law_law_3084.2.2.2.2.2.2.2.2.2.2.2.2.2.2.2.2.2.2.2.2.2.2.2.2.1
theorem F_Law_law_3121 : Jvm.Free.DS.Facts code 3121 [(.aload_n 1, 1), (.aload_n 0, 1), (.iload 4, 2), (.iconst 1, 1), (.iadd, 1), (.iaload, 1), (.invokevirtual 292, 3), (.aload_n 2, 1), (.aload_n 0, 1), (.iload 4, 2), (.iconst 1, 1), (.iadd, 1), (.iaload, 1), (.invokevirtual 296, 3), (.lcmp, 1), (.ifCond .eq (229), 3)] := Jvm.Free.DS.facts 3121 _ (by decide +kernel) (by decide +kernel)
theorem d_Law_law_3121 : decode code 3121 = .ok (.aload_n 1, 1) := F_Law_law_3121.1
theorem d_Law_law_3122 : decode code 3122 = .ok (.aload_n 0, 1) := F_Law_law_3121.2.1
theorem d_Law_law_3123 : decode code 3123 = .ok (.iload 4, 2) := F_Law_law_3121.2.2.1
theorem d_Law_law_3125 : decode code 3125 = .ok (.iconst 1, 1) := F_Law_law_3121.2.2.2.1
theorem d_Law_law_3126 : decode code 3126 = .ok (.iadd, 1) := F_Law_law_3121.2.2.2.2.1
theorem d_Law_law_3127 : decode code 3127 = .ok (.iaload, 1) := F_Law_law_3121.2.2.2.2.2.1
theorem d_Law_law_3128 : decode code 3128 = .ok (.invokevirtual 292, 3) := F_Law_law_3121.2.2.2.2.2.2.1
theorem d_Law_law_3131 : decode code 3131 = .ok (.aload_n 2, 1) := F_Law_law_3121.2.2.2.2.2.2.2.1
theorem d_Law_law_3132 : decode code 3132 = .ok (.aload_n 0, 1) := F_Law_law_3121.2.2.2.2.2.2.2.2.1
theorem d_Law_law_3133 : decode code 3133 = .ok (.iload 4, 2) := F_Law_law_3121.2.2.2.2.2.2.2.2.2.1
theorem d_Law_law_3135 : decode code 3135 = .ok (.iconst 1, 1) := F_Law_law_3121.2.2.2.2.2.2.2.2.2.2.1
theorem d_Law_law_3136 : decode code 3136 = .ok (.iadd, 1) := F_Law_law_3121.2.2.2.2.2.2.2.2.2.2.2.1
theorem d_Law_law_3137 : decode code 3137 = .ok (.iaload, 1) := F_Law_law_3121.2.2.2.2.2.2.2.2.2.2.2.2.1
theorem d_Law_law_3138 : decode code 3138 = .ok (.invokevirtual 296, 3) := F_Law_law_3121.2.2.2.2.2.2.2.2.2.2.2.2.2.1
theorem d_Law_law_3141 : decode code 3141 = .ok (.lcmp, 1) := F_Law_law_3121.2.2.2.2.2.2.2.2.2.2.2.2.2.2.1
theorem d_Law_law_3142 : decode code 3142 = .ok (.ifCond .eq (229), 3) := F_Law_law_3121.2.2.2.2.2.2.2.2.2.2.2.2.2.2.2.1
theorem F_Law_law_3147 : Jvm.Free.DS.Facts code 3147 [(.aload_n 1, 1), (.aload_n 0, 1), (.iload 4, 2), (.iconst 1, 1), (.iadd, 1), (.iaload, 1), (.invokevirtual 297, 3), (.aload_n 2, 1), (.aload_n 0, 1), (.iload 4, 2), (.iconst 1, 1), (.iadd, 1), (.iaload, 1), (.invokevirtual 300, 3), (.if_icmp .eq (204), 3)] := Jvm.Free.DS.facts 3147 _ (by decide +kernel) (by decide +kernel)
theorem d_Law_law_3147 : decode code 3147 = .ok (.aload_n 1, 1) := F_Law_law_3147.1
theorem d_Law_law_3148 : decode code 3148 = .ok (.aload_n 0, 1) := F_Law_law_3147.2.1
theorem d_Law_law_3149 : decode code 3149 = .ok (.iload 4, 2) := F_Law_law_3147.2.2.1
theorem d_Law_law_3151 : decode code 3151 = .ok (.iconst 1, 1) := F_Law_law_3147.2.2.2.1
theorem d_Law_law_3152 : decode code 3152 = .ok (.iadd, 1) := F_Law_law_3147.2.2.2.2.1
theorem d_Law_law_3153 : decode code 3153 = .ok (.iaload, 1) := F_Law_law_3147.2.2.2.2.2.1
theorem d_Law_law_3154 : decode code 3154 = .ok (.invokevirtual 297, 3) := F_Law_law_3147.2.2.2.2.2.2.1
theorem d_Law_law_3157 : decode code 3157 = .ok (.aload_n 2, 1) := F_Law_law_3147.2.2.2.2.2.2.2.1
theorem d_Law_law_3158 : decode code 3158 = .ok (.aload_n 0, 1) := F_Law_law_3147.2.2.2.2.2.2.2.2.1
theorem d_Law_law_3159 : decode code 3159 = .ok (.iload 4, 2) := F_Law_law_3147.2.2.2.2.2.2.2.2.2.1
theorem d_Law_law_3161 : decode code 3161 = .ok (.iconst 1, 1) := F_Law_law_3147.2.2.2.2.2.2.2.2.2.2.1
theorem d_Law_law_3162 : decode code 3162 = .ok (.iadd, 1) := F_Law_law_3147.2.2.2.2.2.2.2.2.2.2.2.1
theorem d_Law_law_3163 : decode code 3163 = .ok (.iaload, 1) := F_Law_law_3147.2.2.2.2.2.2.2.2.2.2.2.2.1
theorem d_Law_law_3164 : decode code 3164 = .ok (.invokevirtual 300, 3) := F_Law_law_3147.2.2.2.2.2.2.2.2.2.2.2.2.2.1
theorem d_Law_law_3167 : decode code 3167 = .ok (.if_icmp .eq (204), 3) := F_Law_law_3147.2.2.2.2.2.2.2.2.2.2.2.2.2.2.1
theorem F_Law_law_3172 : Jvm.Free.DS.Facts code 3172 [(.aload_n 1, 1), (.aload_n 0, 1), (.iload 4, 2), (.iconst 1, 1), (.iadd, 1), (.iaload, 1), (.invokevirtual 301, 3), (.aload_n 2, 1), (.aload_n 0, 1), (.iload 4, 2), (.iconst 1, 1), (.iadd, 1), (.iaload, 1), (.invokevirtual 304, 3), (.if_icmp .eq (179), 3)] := Jvm.Free.DS.facts 3172 _ (by decide +kernel) (by decide +kernel)
theorem d_Law_law_3172 : decode code 3172 = .ok (.aload_n 1, 1) := F_Law_law_3172.1
theorem d_Law_law_3173 : decode code 3173 = .ok (.aload_n 0, 1) := F_Law_law_3172.2.1
theorem d_Law_law_3174 : decode code 3174 = .ok (.iload 4, 2) := F_Law_law_3172.2.2.1
theorem d_Law_law_3176 : decode code 3176 = .ok (.iconst 1, 1) := F_Law_law_3172.2.2.2.1
theorem d_Law_law_3177 : decode code 3177 = .ok (.iadd, 1) := F_Law_law_3172.2.2.2.2.1
theorem d_Law_law_3178 : decode code 3178 = .ok (.iaload, 1) := F_Law_law_3172.2.2.2.2.2.1
theorem d_Law_law_3179 : decode code 3179 = .ok (.invokevirtual 301, 3) := F_Law_law_3172.2.2.2.2.2.2.1
theorem d_Law_law_3182 : decode code 3182 = .ok (.aload_n 2, 1) := F_Law_law_3172.2.2.2.2.2.2.2.1
theorem d_Law_law_3183 : decode code 3183 = .ok (.aload_n 0, 1) := F_Law_law_3172.2.2.2.2.2.2.2.2.1
theorem d_Law_law_3184 : decode code 3184 = .ok (.iload 4, 2) := F_Law_law_3172.2.2.2.2.2.2.2.2.2.1
theorem d_Law_law_3186 : decode code 3186 = .ok (.iconst 1, 1) := F_Law_law_3172.2.2.2.2.2.2.2.2.2.2.1
theorem d_Law_law_3187 : decode code 3187 = .ok (.iadd, 1) := F_Law_law_3172.2.2.2.2.2.2.2.2.2.2.2.1
theorem d_Law_law_3188 : decode code 3188 = .ok (.iaload, 1) := F_Law_law_3172.2.2.2.2.2.2.2.2.2.2.2.2.1
theorem d_Law_law_3189 : decode code 3189 = .ok (.invokevirtual 304, 3) := F_Law_law_3172.2.2.2.2.2.2.2.2.2.2.2.2.2.1
theorem d_Law_law_3192 : decode code 3192 = .ok (.if_icmp .eq (179), 3) := F_Law_law_3172.2.2.2.2.2.2.2.2.2.2.2.2.2.2.1
theorem F_Law_law_3197 : Jvm.Free.DS.Facts code 3197 [(.aload_n 1, 1), (.aload_n 0, 1), (.iload 4, 2), (.iconst 1, 1), (.iadd, 1), (.iaload, 1), (.invokevirtual 305, 3), (.aload_n 2, 1), (.aload_n 0, 1), (.iload 4, 2), (.iconst 1, 1), (.iadd, 1), (.iaload, 1), (.invokevirtual 308, 3), (.if_icmp .eq (154), 3)] := Jvm.Free.DS.facts 3197 _ (by decide +kernel) (by decide +kernel)
theorem d_Law_law_3197 : decode code 3197 = .ok (.aload_n 1, 1) := F_Law_law_3197.1
theorem d_Law_law_3198 : decode code 3198 = .ok (.aload_n 0, 1) := F_Law_law_3197.2.1
theorem d_Law_law_3199 : decode code 3199 = .ok (.iload 4, 2) := F_Law_law_3197.2.2.1
theorem d_Law_law_3201 : decode code 3201 = .ok (.iconst 1, 1) := F_Law_law_3197.2.2.2.1
theorem d_Law_law_3202 : decode code 3202 = .ok (.iadd, 1) := F_Law_law_3197.2.2.2.2.1
theorem d_Law_law_3203 : decode code 3203 = .ok (.iaload, 1) := F_Law_law_3197.2.2.2.2.2.1
theorem d_Law_law_3204 : decode code 3204 = .ok (.invokevirtual 305, 3) := F_Law_law_3197.2.2.2.2.2.2.1
theorem d_Law_law_3207 : decode code 3207 = .ok (.aload_n 2, 1) := F_Law_law_3197.2.2.2.2.2.2.2.1
theorem d_Law_law_3208 : decode code 3208 = .ok (.aload_n 0, 1) := F_Law_law_3197.2.2.2.2.2.2.2.2.1
theorem d_Law_law_3209 : decode code 3209 = .ok (.iload 4, 2) := F_Law_law_3197.2.2.2.2.2.2.2.2.2.1
theorem d_Law_law_3211 : decode code 3211 = .ok (.iconst 1, 1) := F_Law_law_3197.2.2.2.2.2.2.2.2.2.2.1
theorem d_Law_law_3212 : decode code 3212 = .ok (.iadd, 1) := F_Law_law_3197.2.2.2.2.2.2.2.2.2.2.2.1
theorem d_Law_law_3213 : decode code 3213 = .ok (.iaload, 1) := F_Law_law_3197.2.2.2.2.2.2.2.2.2.2.2.2.1
theorem d_Law_law_3214 : decode code 3214 = .ok (.invokevirtual 308, 3) := F_Law_law_3197.2.2.2.2.2.2.2.2.2.2.2.2.2.1
theorem d_Law_law_3217 : decode code 3217 = .ok (.if_icmp .eq (154), 3) := F_Law_law_3197.2.2.2.2.2.2.2.2.2.2.2.2.2.2.1
theorem F_Law_law_3222 : Jvm.Free.DS.Facts code 3222 [(.aload_n 1, 1), (.aload_n 0, 1), (.iload 4, 2), (.iconst 1, 1), (.iadd, 1), (.iaload, 1), (.aload_n 0, 1), (.iload 4, 2), (.iconst 2, 1), (.iadd, 1), (.iaload, 1), (.invokevirtual 309, 3), (.aload_n 2, 1), (.aload_n 0, 1), (.iload 4, 2), (.iconst 1, 1), (.iadd, 1), (.iaload, 1), (.aload_n 0, 1), (.iload 4, 2), (.iconst 2, 1), (.iadd, 1), (.iaload, 1), (.invokevirtual 312, 3), (.if_icmp .eq (117), 3)] := Jvm.Free.DS.facts 3222 _ (by decide +kernel) (by decide +kernel)
theorem d_Law_law_3222 : decode code 3222 = .ok (.aload_n 1, 1) := F_Law_law_3222.1
theorem d_Law_law_3223 : decode code 3223 = .ok (.aload_n 0, 1) := F_Law_law_3222.2.1
theorem d_Law_law_3224 : decode code 3224 = .ok (.iload 4, 2) := F_Law_law_3222.2.2.1
theorem d_Law_law_3226 : decode code 3226 = .ok (.iconst 1, 1) := F_Law_law_3222.2.2.2.1
theorem d_Law_law_3227 : decode code 3227 = .ok (.iadd, 1) := F_Law_law_3222.2.2.2.2.1
theorem d_Law_law_3228 : decode code 3228 = .ok (.iaload, 1) := F_Law_law_3222.2.2.2.2.2.1
theorem d_Law_law_3229 : decode code 3229 = .ok (.aload_n 0, 1) := F_Law_law_3222.2.2.2.2.2.2.1
theorem d_Law_law_3230 : decode code 3230 = .ok (.iload 4, 2) := F_Law_law_3222.2.2.2.2.2.2.2.1
theorem d_Law_law_3232 : decode code 3232 = .ok (.iconst 2, 1) := F_Law_law_3222.2.2.2.2.2.2.2.2.1
theorem d_Law_law_3233 : decode code 3233 = .ok (.iadd, 1) := F_Law_law_3222.2.2.2.2.2.2.2.2.2.1
theorem d_Law_law_3234 : decode code 3234 = .ok (.iaload, 1) := F_Law_law_3222.2.2.2.2.2.2.2.2.2.2.1
theorem d_Law_law_3235 : decode code 3235 = .ok (.invokevirtual 309, 3) := F_Law_law_3222.2.2.2.2.2.2.2.2.2.2.2.1
theorem d_Law_law_3238 : decode code 3238 = .ok (.aload_n 2, 1) := F_Law_law_3222.2.2.2.2.2.2.2.2.2.2.2.2.1
theorem d_Law_law_3239 : decode code 3239 = .ok (.aload_n 0, 1) := F_Law_law_3222.2.2.2.2.2.2.2.2.2.2.2.2.2.1
theorem d_Law_law_3240 : decode code 3240 = .ok (.iload 4, 2) := F_Law_law_3222.2.2.2.2.2.2.2.2.2.2.2.2.2.2.1
theorem d_Law_law_3242 : decode code 3242 = .ok (.iconst 1, 1) := F_Law_law_3222.2.2.2.2.2.2.2.2.2.2.2.2.2.2.2.1
theorem d_Law_law_3243 : decode code 3243 = .ok (.iadd, 1) := F_Law_law_3222.2.2.2.2.2.2.2.2.2.2.2.2.2.2.2.2.1
theorem d_Law_law_3244 : decode code 3244 = .ok (.iaload, 1) := F_Law_law_3222.2.2.2.2.2.2.2.2.2.2.2.2.2.2.2.2.2.1
theorem d_Law_law_3245 : decode code 3245 = .ok (.aload_n 0, 1) := F_Law_law_3222.2.2.2.2.2.2.2.2.2.2.2.2.2.2.2.2.2.2.1
theorem d_Law_law_3246 : decode code 3246 = .ok (.iload 4, 2) := F_Law_law_3222.2.2.2.2.2.2.2.2.2.2.2.2.2.2.2.2.2.2.2.1
theorem d_Law_law_3248 : decode code 3248 = .ok (.iconst 2, 1) := F_Law_law_3222.2.2.2.2.2.2.2.2.2.2.2.2.2.2.2.2.2.2.2.2.1
theorem d_Law_law_3249 : decode code 3249 = .ok (.iadd, 1) := F_Law_law_3222.2.2.2.2.2.2.2.2.2.2.2.2.2.2.2.2.2.2.2.2.2.1
theorem d_Law_law_3250 : decode code 3250 = .ok (.iaload, 1) := F_Law_law_3222.2.2.2.2.2.2.2.2.2.2.2.2.2.2.2.2.2.2.2.2.2.2.1
theorem d_Law_law_3251 : decode code 3251 = .ok (.invokevirtual 312, 3) := F_Law_law_3222.2.2.2.2.2.2.2.2.2.2.2.2.2.2.2.2.2.2.2.2.2.2.2.1
theorem d_Law_law_3254 : decode code 3254 = .ok (.if_icmp .eq (117), 3) := F_Law_law_3222.2.2.2.2.2.2.2.2.2.2.2.2.2.2.2.2.2.2.2.2.2.2.2.2.1
theorem F_Law_law_3259 : Jvm.Free.DS.Facts code 3259 [(.aload_n 1, 1), (.aload_n 0, 1), (.iload 4, 2), (.iconst 1, 1), (.iadd, 1), (.iaload, 1), (.invokevirtual 313, 3), (.aload_n 2, 1), (.aload_n 0, 1), (.iload 4, 2), (.iconst 1, 1), (.iadd, 1), (.iaload, 1), (.invokevirtual 316, 3), (.if_icmp .eq (92), 3)] := Jvm.Free.DS.facts 3259 _ (by decide +kernel) (by decide +kernel)
theorem d_Law_law_3259 : decode code 3259 = .ok (.aload_n 1, 1) := F_Law_law_3259.1
theorem d_Law_law_3260 : decode code 3260 = .ok (.aload_n 0, 1) := F_Law_law_3259.2.1
theorem d_Law_law_3261 : decode code 3261 = .ok (.iload 4, 2) := F_Law_law_3259.2.2.1
theorem d_Law_law_3263 : decode code 3263 = .ok (.iconst 1, 1) := F_Law_law_3259.2.2.2.1
theorem d_Law_law_3264 : decode code 3264 = .ok (.iadd, 1) := F_Law_law_3259.2.2.2.2.1
theorem d_Law_law_3265 : decode code 3265 = .ok (.iaload, 1) := F_Law_law_3259.2.2.2.2.2.1
theorem d_Law_law_3266 : decode code 3266 = .ok (.invokevirtual 313, 3) := F_Law_law_3259.2.2.2.2.2.2.1
theorem d_Law_law_3269 : decode code 3269 = .ok (.aload_n 2, 1) := F_Law_law_3259.2.2.2.2.2.2.2.1
theorem d_Law_law_3270 : decode code 3270 = .ok (.aload_n 0, 1) := F_Law_law_3259.2.2.2.2.2.2.2.2.1
theorem d_Law_law_3271 : decode code 3271 = .ok (.iload 4, 2) := F_Law_law_3259.2.2.2.2.2.2.2.2.2.1
theorem d_Law_law_3273 : decode code 3273 = .ok (.iconst 1, 1) := F_Law_law_3259.2.2.2.2.2.2.2.2.2.2.1
theorem d_Law_law_3274 : decode code 3274 = .ok (.iadd, 1) := F_Law_law_3259.2.2.2.2.2.2.2.2.2.2.2.1
theorem d_Law_law_3275 : decode code 3275 = .ok (.iaload, 1) := F_Law_law_3259.2.2.2.2.2.2.2.2.2.2.2.2.1
theorem d_Law_law_3276 : decode code 3276 = .ok (.invokevirtual 316, 3) := F_Law_law_3259.2.2.2.2.2.2.2.2.2.2.2.2.2.1
theorem d_Law_law_3279 : decode code 3279 = .ok (.if_icmp .eq (92), 3) := F_Law_law_3259.2.2.2.2.2.2.2.2.2.2.2.2.2.2.1
theorem F_Law_law_3284 : Jvm.Free.DS.Facts code 3284 [(.aload_n 1, 1), (.aload_n 0, 1), (.iload 4, 2), (.iconst 1, 1), (.iadd, 1), (.iaload, 1), (.aload_n 0, 1), (.iload 4, 2), (.iconst 2, 1), (.iadd, 1), (.iaload, 1), (.invokevirtual 317, 3), (.aload_n 2, 1), (.aload_n 0, 1), (.iload 4, 2), (.iconst 1, 1), (.iadd, 1), (.iaload, 1), (.aload_n 0, 1), (.iload 4, 2), (.iconst 2, 1), (.iadd, 1), (.iaload, 1), (.invokevirtual 320, 3), (.if_icmp .eq (55), 3)] := Jvm.Free.DS.facts 3284 _ (by decide +kernel) (by decide +kernel)
theorem d_Law_law_3284 : decode code 3284 = .ok (.aload_n 1, 1) := F_Law_law_3284.1
theorem d_Law_law_3285 : decode code 3285 = .ok (.aload_n 0, 1) := F_Law_law_3284.2.1
theorem d_Law_law_3286 : decode code 3286 = .ok (.iload 4, 2) := F_Law_law_3284.2.2.1
theorem d_Law_law_3288 : decode code 3288 = .ok (.iconst 1, 1) := F_Law_law_3284.2.2.2.1
theorem d_Law_law_3289 : decode code 3289 = .ok (.iadd, 1) := F_Law_law_3284.2.2.2.2.1
theorem d_Law_law_3290 : decode code 3290 = .ok (.iaload, 1) := F_Law_law_3284.2.2.2.2.2.1
theorem d_Law_law_3291 : decode code 3291 = .ok (.aload_n 0, 1) := F_Law_law_3284.2.2.2.2.2.2.1
theorem d_Law_law_3292 : decode code 3292 = .ok (.iload 4, 2) := F_Law_law_3284.2.2.2.2.2.2.2.1
theorem d_Law_law_3294 : decode code 3294 = .ok (.iconst 2, 1) := F_Law_law_3284.2.2.2.2.2.2.2.2.1
theorem d_Law_law_3295 : decode code 3295 = .ok (.iadd, 1) := F_Law_law_3284.2.2.2.2.2.2.2.2.2.1
theorem d_Law_law_3296 : decode code 3296 = .ok (.iaload, 1) := F_Law_law_3284.2.2.2.2.2.2.2.2.2.2.1
theorem d_Law_law_3297 : decode code 3297 = .ok (.invokevirtual 317, 3) := F_Law_law_3284.2.2.2.2.2.2.2.2.2.2.2.1
theorem d_Law_law_3300 : decode code 3300 = .ok (.aload_n 2, 1) := F_Law_law_3284.2.2.2.2.2.2.2.2.2.2.2.2.1
theorem d_Law_law_3301 : decode code 3301 = .ok (.aload_n 0, 1) := F_Law_law_3284.2.2.2.2.2.2.2.2.2.2.2.2.2.1
theorem d_Law_law_3302 : decode code 3302 = .ok (.iload 4, 2) := F_Law_law_3284.2.2.2.2.2.2.2.2.2.2.2.2.2.2.1
theorem d_Law_law_3304 : decode code 3304 = .ok (.iconst 1, 1) := F_Law_law_3284.2.2.2.2.2.2.2.2.2.2.2.2.2.2.2.1
theorem d_Law_law_3305 : decode code 3305 = .ok (.iadd, 1) := F_Law_law_3284.2.2.2.2.2.2.2.2.2.2.2.2.2.2.2.2.1
theorem d_Law_law_3306 : decode code 3306 = .ok (.iaload, 1) := F_Law_law_3284.2.2.2.2.2.2.2.2.2.2.2.2.2.2.2.2.2.1
theorem d_Law_law_3307 : decode code 3307 = .ok (.aload_n 0, 1) := F_Law_law_3284.2.2.2.2.2.2.2.2.2.2.2.2.2.2.2.2.2.2.1
theorem d_Law_law_3308 : decode code 3308 = .ok (.iload 4, 2) := F_Law_law_3284.2.2.2.2.2.2.2.2.2.2.2.2.2.2.2.2.2.2.2.1
theorem d_Law_law_3310 : decode code 3310 = .ok (.iconst 2, 1) := F_Law_law_3284.2.2.2.2.2.2.2.2.2.2.2.2.2.2.2.2.2.2.2.2.1
theorem d_Law_law_3311 : decode code 3311 = .ok (.iadd, 1) := F_Law_law_3284.2.2.2.2.2.2.2.2.2.2.2.2.2.2.2.2.2.2.2.2.2.1
theorem d_Law_law_3312 : decode code 3312 = .ok (.iaload, 1) := F_Law_law_3284.2.2.2.2.2.2.2.2.2.2.2.2.2.2.2.2.2.2.2.2.2.2.1
theorem d_Law_law_3313 : decode code 3313 = .ok (.invokevirtual 320, 3) := F_Law_law_3284.2.2.2.2.2.2.2.2.2.2.2.2.2.2.2.2.2.2.2.2.2.2.2.1
theorem d_Law_law_3316 : decode code 3316 = .ok (.if_icmp .eq (55), 3) := F_Law_law_3284.2.2.2.2.2.2.2.2.2.2.2.2.2.2.2.2.2.2.2.2.2.2.2.2.1
theorem F_Law_law_3321 : Jvm.Free.DS.Facts code 3321 [(.aload_n 1, 1), (.aload_n 0, 1), (.iload 4, 2), (.iconst 1, 1), (.iadd, 1), (.iaload, 1), (.invokevirtual 321, 3), (.aload_n 2, 1), (.aload_n 0, 1), (.iload 4, 2), (.iconst 1, 1), (.iadd, 1), (.iaload, 1), (.invokevirtual 324, 3), (.if_icmp .eq (30), 3)] := Jvm.Free.DS.facts 3321 _ (by decide +kernel) (by decide +kernel)
theorem d_Law_law_3321 : decode code 3321 = .ok (.aload_n 1, 1) := F_Law_law_3321.1
theorem d_Law_law_3322 : decode code 3322 = .ok (.aload_n 0, 1) := F_Law_law_3321.2.1
theorem d_Law_law_3323 : decode code 3323 = .ok (.iload 4, 2) := F_Law_law_3321.2.2.1
theorem d_Law_law_3325 : decode code 3325 = .ok (.iconst 1, 1) := F_Law_law_3321.2.2.2.1
theorem d_Law_law_3326 : decode code 3326 = .ok (.iadd, 1) := F_Law_law_3321.2.2.2.2.1
theorem d_Law_law_3327 : decode code 3327 = .ok (.iaload, 1) := F_Law_law_3321.2.2.2.2.2.1
theorem d_Law_law_3328 : decode code 3328 = .ok (.invokevirtual 321, 3) := F_Law_law_3321.2.2.2.2.2.2.1
theorem d_Law_law_3331 : decode code 3331 = .ok (.aload_n 2, 1) := F_Law_law_3321.2.2.2.2.2.2.2.1
theorem d_Law_law_3332 : decode code 3332 = .ok (.aload_n 0, 1) := F_Law_law_3321.2.2.2.2.2.2.2.2.1
theorem d_Law_law_3333 : decode code 3333 = .ok (.iload 4, 2) := F_Law_law_3321.2.2.2.2.2.2.2.2.2.1
theorem d_Law_law_3335 : decode code 3335 = .ok (.iconst 1, 1) := F_Law_law_3321.2.2.2.2.2.2.2.2.2.2.1
theorem d_Law_law_3336 : decode code 3336 = .ok (.iadd, 1) := F_Law_law_3321.2.2.2.2.2.2.2.2.2.2.2.1
theorem d_Law_law_3337 : decode code 3337 = .ok (.iaload, 1) := F_Law_law_3321.2.2.2.2.2.2.2.2.2.2.2.2.1
theorem d_Law_law_3338 : decode code 3338 = .ok (.invokevirtual 324, 3) := F_Law_law_3321.2.2.2.2.2.2.2.2.2.2.2.2.2.1
theorem d_Law_law_3341 : decode code 3341 = .ok (.if_icmp .eq (30), 3) := F_Law_law_3321.2.2.2.2.2.2.2.2.2.2.2.2.2.2.1
theorem F_Law_law_3346 : Jvm.Free.DS.Facts code 3346 [(.aload_n 1, 1), (.aload_n 0, 1), (.iload 4, 2), (.iconst 1, 1), (.iadd, 1), (.iaload, 1), (.invokevirtual 325, 3), (.aload_n 2, 1), (.aload_n 0, 1), (.iload 4, 2), (.iconst 1, 1), (.iadd, 1), (.iaload, 1), (.invokevirtual 328, 3), (.if_icmp .eq (5), 3)] := Jvm.Free.DS.facts 3346 _ (by decide +kernel) (by decide +kernel)
theorem d_Law_law_3346 : decode code 3346 = .ok (.aload_n 1, 1) := F_Law_law_3346.1
theorem d_Law_law_3347 : decode code 3347 = .ok (.aload_n 0, 1) := F_Law_law_3346.2.1
theorem d_Law_law_3348 : decode code 3348 = .ok (.iload 4, 2) := F_Law_law_3346.2.2.1
theorem d_Law_law_3350 : decode code 3350 = .ok (.iconst 1, 1) := F_Law_law_3346.2.2.2.1
theorem d_Law_law_3351 : decode code 3351 = .ok (.iadd, 1) := F_Law_law_3346.2.2.2.2.1
theorem d_Law_law_3352 : decode code 3352 = .ok (.iaload, 1) := F_Law_law_3346.2.2.2.2.2.1
theorem d_Law_law_3353 : decode code 3353 = .ok (.invokevirtual 325, 3) := F_Law_law_3346.2.2.2.2.2.2.1
theorem d_Law_law_3356 : decode code 3356 = .ok (.aload_n 2, 1) := F_Law_law_3346.2.2.2.2.2.2.2.1
theorem d_Law_law_3357 : decode code 3357 = .ok (.aload_n 0, 1) := F_Law_law_3346.2.2.2.2.2.2.2.2.1
theorem d_Law_law_3358 : decode code 3358 = .ok (.iload 4, 2) := F_Law_law_3346.2.2.2.2.2.2.2.2.2.1
theorem d_Law_law_3360 : decode code 3360 = .ok (.iconst 1, 1) := F_Law_law_3346.2.2.2.2.2.2.2.2.2.2.1
theorem d_Law_law_3361 : decode code 3361 = .ok (.iadd, 1) := F_Law_law_3346.2.2.2.2.2.2.2.2.2.2.2.1
theorem d_Law_law_3362 : decode code 3362 = .ok (.iaload, 1) := F_Law_law_3346.2.2.2.2.2.2.2.2.2.2.2.2.1
theorem d_Law_law_3363 : decode code 3363 = .ok (.invokevirtual 328, 3) := F_Law_law_3346.2.2.2.2.2.2.2.2.2.2.2.2.2.1
theorem d_Law_law_3366 : decode code 3366 = .ok (.if_icmp .eq (5), 3) := F_Law_law_3346.2.2.2.2.2.2.2.2.2.2.2.2.2.2.1
theorem F_Law_law_3371 : Jvm.Free.DS.Facts code 3371 [(.iinc 4 (6), 3), (.goto (-3351), 3), (.iconst 1, 1), (.ireturn, 1)] := Jvm.Free.DS.facts 3371 _ (by decide +kernel) (by decide +kernel)
theorem d_Law_law_3371 : decode code 3371 = .ok (.iinc 4 (6), 3) := F_Law_law_3371.1
theorem d_Law_law_3374 : decode code 3374 = .ok (.goto (-3351), 3) := F_Law_law_3371.2.1
theorem d_Law_law_3377 : decode code 3377 = .ok (.iconst 1, 1) := F_Law_law_3371.2.2.1
theorem d_Law_law_3378 : decode code 3378 = .ok (.ireturn, 1) := F_Law_law_3371.2.2.2.1
theorem d_law_40 : decode code 40 = .ok (.tableswitch 3331 0 71 #[304, 377, 402, 427, 507, 587, 655, 680, 705, 730, 767, 804, 841, 866, 903, 928, 977, 1002, 1015, 1089, 1163, 1237, 1275, 1313, 1362, 1399, 1424, 1449, 1474, 1511, 1548, 1585, 1622, 1659, 1709, 1758, 1832, 1906, 1968, 2030, 2067, 2104, 2141, 2178, 2228, 2265, 2302, 2339, 2376, 2413, 2438, 2487, 2561, 2622, 2672, 2721, 2771, 2821, 2846, 2908, 2946, 2995, 3044, 3081, 3107, 3132, 3157, 3182, 3219, 3244, 3281, 3306], 304) := by decide +kernel
theorem in_Law : Cond.initialized "CornerMapsLaw" ∈ gtbl := g_at 0 (by decide +kernel) rfl
theorem dd_Law_corner : M_Law_corner.1.cls ≠ "java/lang/invoke/MethodHandle" ∧ M_Law_corner.1.cls ≠ "java/lang/invoke/VarHandle" ∧ (parseMethodDescriptor M_Law_corner.1.desc).map (fun d => d.parameters.length) = some 5 := by decide +kernel
theorem dd_Law_map : M_Law_map.1.cls ≠ "java/lang/invoke/MethodHandle" ∧ M_Law_map.1.cls ≠ "java/lang/invoke/VarHandle" ∧ (parseMethodDescriptor M_Law_map.1.desc).map (fun d => d.parameters.length) = some 5 := by decide +kernel
theorem dd_Law_point : M_Law_point.1.cls ≠ "java/lang/invoke/MethodHandle" ∧ M_Law_point.1.cls ≠ "java/lang/invoke/VarHandle" ∧ (parseMethodDescriptor M_Law_point.1.desc).map (fun d => d.parameters.length) = some 4 := by decide +kernel
