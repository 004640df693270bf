def f_X12_init (fu : Nat) (s : fl_I) (l : fl_L) : fl_I × fl_L :=
  ((f_X12_keepsRow fu (f_X12_begins fu (f_X12_plain fu (1 : Int32) (f_X12_plain fu (0 : Int32) s l).1 (f_X12_plain fu (0 : Int32) s l).2).1 (wl (wl (wl (wl (wl (wl (wl (wl (wl (wl (wl (wl (wl (wl (wl (wl (wl (wl (wl (wl (wl (f_X12_plain fu (1 : Int32) (f_X12_plain fu (0 : Int32) s l).1 (f_X12_plain fu (0 : Int32) s l).2).2 67 (0 : Int32).toNatClampNeg (f_X12_word fu (108 : Int32) (101 : Int32) (116 : Int32) (116 : Int32) (101 : Int32) (114 : Int32) (0 : Int32))) 67 (1 : Int32).toNatClampNeg (f_X12_word fu (119 : Int32) (111 : Int32) (114 : Int32) (100 : Int32) (0 : Int32) (0 : Int32) (0 : Int32))) 67 (2 : Int32).toNatClampNeg (f_X12_word fu (112 : Int32) (105 : Int32) (99 : Int32) (107 : Int32) (101 : Int32) (114 : Int32) (0 : Int32))) 67 (3 : Int32).toNatClampNeg (f_X12_word fu (98 : Int32) (108 : Int32) (111 : Int32) (119 : Int32) (115 : Int32) (0 : Int32) (0 : Int32))) 67 (4 : Int32).toNatClampNeg (f_X12_word fu (116 : Int32) (97 : Int32) (107 : Int32) (101 : Int32) (115 : Int32) (0 : Int32) (0 : Int32))) 67 (5 : Int32).toNatClampNeg (f_X12_word fu (112 : Int32) (97 : Int32) (121 : Int32) (115 : Int32) (0 : Int32) (0 : Int32) (0 : Int32))) 67 (6 : Int32).toNatClampNeg (f_X12_word fu (119 : Int32) (105 : Int32) (110 : Int32) (100 : Int32) (0 : Int32) (0 : Int32) (0 : Int32))) 67 (7 : Int32).toNatClampNeg (f_X12_word fu (114 : Int32) (97 : Int32) (105 : Int32) (110 : Int32) (0 : Int32) (0 : Int32) (0 : Int32))) 67 (8 : Int32).toNatClampNeg (f_X12_word fu (115 : Int32) (101 : Int32) (101 : Int32) (100 : Int32) (0 : Int32) (0 : Int32) (0 : Int32))) 67 (9 : Int32).toNatClampNeg (f_X12_word fu (105 : Int32) (102 : Int32) (0 : Int32) (0 : Int32) (0 : Int32) (0 : Int32) (0 : Int32))) 67 (10 : Int32).toNatClampNeg (f_X12_word fu (116 : Int32) (104 : Int32) (101 : Int32) (110 : Int32) (0 : Int32) (0 : Int32) (0 : Int32))) 67 (11 : Int32).toNatClampNeg (f_X12_word fu (101 : Int32) (108 : Int32) (115 : Int32) (101 : Int32) (0 : Int32) (0 : Int32) (0 : Int32))) 67 (12 : Int32).toNatClampNeg (f_X12_word fu (115 : Int32) (105 : Int32) (103 : Int32) (110 : Int32) (0 : Int32) (0 : Int32) (0 : Int32))) 67 (13 : Int32).toNatClampNeg (f_X12_word fu (97 : Int32) (99 : Int32) (114 : Int32) (111 : Int32) (115 : Int32) (115 : Int32) (0 : Int32))) 67 (14 : Int32).toNatClampNeg (f_X12_word fu (100 : Int32) (111 : Int32) (119 : Int32) (110 : Int32) (0 : Int32) (0 : Int32) (0 : Int32))) 67 (15 : Int32).toNatClampNeg (f_X12_word fu (104 : Int32) (111 : Int32) (117 : Int32) (114 : Int32) (0 : Int32) (0 : Int32) (0 : Int32))) 67 (16 : Int32).toNatClampNeg (f_X12_word fu (108 : Int32) (97 : Int32) (105 : Int32) (110 : Int32) (0 : Int32) (0 : Int32) (0 : Int32))) 67 (17 : Int32).toNatClampNeg (f_X12_word fu (104 : Int32) (97 : Int32) (116 : Int32) (0 : Int32) (0 : Int32) (0 : Int32) (0 : Int32))) 67 (18 : Int32).toNatClampNeg (f_X12_word fu (104 : Int32) (97 : Int32) (115 : Int32) (0 : Int32) (0 : Int32) (0 : Int32) (0 : Int32))) 67 (19 : Int32).toNatClampNeg (f_X12_word fu (104 : Int32) (101 : Int32) (114 : Int32) (101 : Int32) (0 : Int32) (0 : Int32) (0 : Int32))) 67 (20 : Int32).toNatClampNeg (f_X12_word fu (119 : Int32) (104 : Int32) (105 : Int32) (99 : Int32) (104 : Int32) (0 : Int32) (0 : Int32)))).1 (f_X12_begins fu (f_X12_plain fu (1 : Int32) (f_X12_plain fu (0 : Int32) s l).1 (f_X12_plain fu (0 : Int32) s l).2).1 (wl (wl (wl (wl (wl (wl (wl (wl (wl (wl (wl (wl (wl (wl (wl (wl (wl (wl (wl (wl (wl (f_X12_plain fu (1 : Int32) (f_X12_plain fu (0 : Int32) s l).1 (f_X12_plain fu (0 : Int32) s l).2).2 67 (0 : Int32).toNatClampNeg (f_X12_word fu (108 : Int32) (101 : Int32) (116 : Int32) (116 : Int32) (101 : Int32) (114 : Int32) (0 : Int32))) 67 (1 : Int32).toNatClampNeg (f_X12_word fu (119 : Int32) (111 : Int32) (114 : Int32) (100 : Int32) (0 : Int32) (0 : Int32) (0 : Int32))) 67 (2 : Int32).toNatClampNeg (f_X12_word fu (112 : Int32) (105 : Int32) (99 : Int32) (107 : Int32) (101 : Int32) (114 : Int32) (0 : Int32))) 67 (3 : Int32).toNatClampNeg (f_X12_word fu (98 : Int32) (108 : Int32) (111 : Int32) (119 : Int32) (115 : Int32) (0 : Int32) (0 : Int32))) 67 (4 : Int32).toNatClampNeg (f_X12_word fu (116 : Int32) (97 : Int32) (107 : Int32) (101 : Int32) (115 : Int32) (0 : Int32) (0 : Int32))) 67 (5 : Int32).toNatClampNeg (f_X12_word fu (112 : Int32) (97 : Int32) (121 : Int32) (115 : Int32) (0 : Int32) (0 : Int32) (0 : Int32))) 67 (6 : Int32).toNatClampNeg (f_X12_word fu (119 : Int32) (105 : Int32) (110 : Int32) (100 : Int32) (0 : Int32) (0 : Int32) (0 : Int32))) 67 (7 : Int32).toNatClampNeg (f_X12_word fu (114 : Int32) (97 : Int32) (105 : Int32) (110 : Int32) (0 : Int32) (0 : Int32) (0 : Int32))) 67 (8 : Int32).toNatClampNeg (f_X12_word fu (115 : Int32) (101 : Int32) (101 : Int32) (100 : Int32) (0 : Int32) (0 : Int32) (0 : Int32))) 67 (9 : Int32).toNatClampNeg (f_X12_word fu (105 : Int32) (102 : Int32) (0 : Int32) (0 : Int32) (0 : Int32) (0 : Int32) (0 : Int32))) 67 (10 : Int32).toNatClampNeg (f_X12_word fu (116 : Int32) (104 : Int32) (101 : Int32) (110 : Int32) (0 : Int32) (0 : Int32) (0 : Int32))) 67 (11 : Int32).toNatClampNeg (f_X12_word fu (101 : Int32) (108 : Int32) (115 : Int32) (101 : Int32) (0 : Int32) (0 : Int32) (0 : Int32))) 67 (12 : Int32).toNatClampNeg (f_X12_word fu (115 : Int32) (105 : Int32) (103 : Int32) (110 : Int32) (0 : Int32) (0 : Int32) (0 : Int32))) 67 (13 : Int32).toNatClampNeg (f_X12_word fu (97 : Int32) (99 : Int32) (114 : Int32) (111 : Int32) (115 : Int32) (115 : Int32) (0 : Int32))) 67 (14 : Int32).toNatClampNeg (f_X12_word fu (100 : Int32) (111 : Int32) (119 : Int32) (110 : Int32) (0 : Int32) (0 : Int32) (0 : Int32))) 67 (15 : Int32).toNatClampNeg (f_X12_word fu (104 : Int32) (111 : Int32) (117 : Int32) (114 : Int32) (0 : Int32) (0 : Int32) (0 : Int32))) 67 (16 : Int32).toNatClampNeg (f_X12_word fu (108 : Int32) (97 : Int32) (105 : Int32) (110 : Int32) (0 : Int32) (0 : Int32) (0 : Int32))) 67 (17 : Int32).toNatClampNeg (f_X12_word fu (104 : Int32) (97 : Int32) (116 : Int32) (0 : Int32) (0 : Int32) (0 : Int32) (0 : Int32))) 67 (18 : Int32).toNatClampNeg (f_X12_word fu (104 : Int32) (97 : Int32) (115 : Int32) (0 : Int32) (0 : Int32) (0 : Int32) (0 : Int32))) 67 (19 : Int32).toNatClampNeg (f_X12_word fu (104 : Int32) (101 : Int32) (114 : Int32) (101 : Int32) (0 : Int32) (0 : Int32) (0 : Int32))) 67 (20 : Int32).toNatClampNeg (f_X12_word fu (119 : Int32) (104 : Int32) (105 : Int32) (99 : Int32) (104 : Int32) (0 : Int32) (0 : Int32)))).2).1, (f_X12_keepsRow fu (f_X12_begins fu (f_X12_plain fu (1 : Int32) (f_X12_plain fu (0 : Int32) s l).1 (f_X12_plain fu (0 : Int32) s l).2).1 (wl (wl (wl (wl (wl (wl (wl (wl (wl (wl (wl (wl (wl (wl (wl (wl (wl (wl (wl (wl (wl (f_X12_plain fu (1 : Int32) (f_X12_plain fu (0 : Int32) s l).1 (f_X12_plain fu (0 : Int32) s l).2).2 67 (0 : Int32).toNatClampNeg (f_X12_word fu (108 : Int32) (101 : Int32) (116 : Int32) (116 : Int32) (101 : Int32) (114 : Int32) (0 : Int32))) 67 (1 : Int32).toNatClampNeg (f_X12_word fu (119 : Int32) (111 : Int32) (114 : Int32) (100 : Int32) (0 : Int32) (0 : Int32) (0 : Int32))) 67 (2 : Int32).toNatClampNeg (f_X12_word fu (112 : Int32) (105 : Int32) (99 : Int32) (107 : Int32) (101 : Int32) (114 : Int32) (0 : Int32))) 67 (3 : Int32).toNatClampNeg (f_X12_word fu (98 : Int32) (108 : Int32) (111 : Int32) (119 : Int32) (115 : Int32) (0 : Int32) (0 : Int32))) 67 (4 : Int32).toNatClampNeg (f_X12_word fu (116 : Int32) (97 : Int32) (107 : Int32) (101 : Int32) (115 : Int32) (0 : Int32) (0 : Int32))) 67 (5 : Int32).toNatClampNeg (f_X12_word fu (112 : Int32) (97 : Int32) (121 : Int32) (115 : Int32) (0 : Int32) (0 : Int32) (0 : Int32))) 67 (6 : Int32).toNatClampNeg (f_X12_word fu (119 : Int32) (105 : Int32) (110 : Int32) (100 : Int32) (0 : Int32) (0 : Int32) (0 : Int32))) 67 (7 : Int32).toNatClampNeg (f_X12_word fu (114 : Int32) (97 : Int32) (105 : Int32) (110 : Int32) (0 : Int32) (0 : Int32) (0 : Int32))) 67 (8 : Int32).toNatClampNeg (f_X12_word fu (115 : Int32) (101 : Int32) (101 : Int32) (100 : Int32) (0 : Int32) (0 : Int32) (0 : Int32))) 67 (9 : Int32).toNatClampNeg (f_X12_word fu (105 : Int32) (102 : Int32) (0 : Int32) (0 : Int32) (0 : Int32) (0 : Int32) (0 : Int32))) 67 (10 : Int32).toNatClampNeg (f_X12_word fu (116 : Int32) (104 : Int32) (101 : Int32) (110 : Int32) (0 : Int32) (0 : Int32) (0 : Int32))) 67 (11 : Int32).toNatClampNeg (f_X12_word fu (101 : Int32) (108 : Int32) (115 : Int32) (101 : Int32) (0 : Int32) (0 : Int32) (0 : Int32))) 67 (12 : Int32).toNatClampNeg (f_X12_word fu (115 : Int32) (105 : Int32) (103 : Int32) (110 : Int32) (0 : Int32) (0 : Int32) (0 : Int32))) 67 (13 : Int32).toNatClampNeg (f_X12_word fu (97 : Int32) (99 : Int32) (114 : Int32) (111 : Int32) (115 : Int32) (115 : Int32) (0 : Int32))) 67 (14 : Int32).toNatClampNeg (f_X12_word fu (100 : Int32) (111 : Int32) (119 : Int32) (110 : Int32) (0 : Int32) (0 : Int32) (0 : Int32))) 67 (15 : Int32).toNatClampNeg (f_X12_word fu (104 : Int32) (111 : Int32) (117 : Int32) (114 : Int32) (0 : Int32) (0 : Int32) (0 : Int32))) 67 (16 : Int32).toNatClampNeg (f_X12_word fu (108 : Int32) (97 : Int32) (105 : Int32) (110 : Int32) (0 : Int32) (0 : Int32) (0 : Int32))) 67 (17 : Int32).toNatClampNeg (f_X12_word fu (104 : Int32) (97 : Int32) (116 : Int32) (0 : Int32) (0 : Int32) (0 : Int32) (0 : Int32))) 67 (18 : Int32).toNatClampNeg (f_X12_word fu (104 : Int32) (97 : Int32) (115 : Int32) (0 : Int32) (0 : Int32) (0 : Int32) (0 : Int32))) 67 (19 : Int32).toNatClampNeg (f_X12_word fu (104 : Int32) (101 : Int32) (114 : Int32) (101 : Int32) (0 : Int32) (0 : Int32) (0 : Int32))) 67 (20 : Int32).toNatClampNeg (f_X12_word fu (119 : Int32) (104 : Int32) (105 : Int32) (99 : Int32) (104 : Int32) (0 : Int32) (0 : Int32)))).1 (f_X12_begins fu (f_X12_plain fu (1 : Int32) (f_X12_plain fu (0 : Int32) s l).1 (f_X12_plain fu (0 : Int32) s l).2).1 (wl (wl (wl (wl (wl (wl (wl (wl (wl (wl (wl (wl (wl (wl (wl (wl (wl (wl (wl (wl (wl (f_X12_plain fu (1 : Int32) (f_X12_plain fu (0 : Int32) s l).1 (f_X12_plain fu (0 : Int32) s l).2).2 67 (0 : Int32).toNatClampNeg (f_X12_word fu (108 : Int32) (101 : Int32) (116 : Int32) (116 : Int32) (101 : Int32) (114 : Int32) (0 : Int32))) 67 (1 : Int32).toNatClampNeg (f_X12_word fu (119 : Int32) (111 : Int32) (114 : Int32) (100 : Int32) (0 : Int32) (0 : Int32) (0 : Int32))) 67 (2 : Int32).toNatClampNeg (f_X12_word fu (112 : Int32) (105 : Int32) (99 : Int32) (107 : Int32) (101 : Int32) (114 : Int32) (0 : Int32))) 67 (3 : Int32).toNatClampNeg (f_X12_word fu (98 : Int32) (108 : Int32) (111 : Int32) (119 : Int32) (115 : Int32) (0 : Int32) (0 : Int32))) 67 (4 : Int32).toNatClampNeg (f_X12_word fu (116 : Int32) (97 : Int32) (107 : Int32) (101 : Int32) (115 : Int32) (0 : Int32) (0 : Int32))) 67 (5 : Int32).toNatClampNeg (f_X12_word fu (112 : Int32) (97 : Int32) (121 : Int32) (115 : Int32) (0 : Int32) (0 : Int32) (0 : Int32))) 67 (6 : Int32).toNatClampNeg (f_X12_word fu (119 : Int32) (105 : Int32) (110 : Int32) (100 : Int32) (0 : Int32) (0 : Int32) (0 : Int32))) 67 (7 : Int32).toNatClampNeg (f_X12_word fu (114 : Int32) (97 : Int32) (105 : Int32) (110 : Int32) (0 : Int32) (0 : Int32) (0 : Int32))) 67 (8 : Int32).toNatClampNeg (f_X12_word fu (115 : Int32) (101 : Int32) (101 : Int32) (100 : Int32) (0 : Int32) (0 : Int32) (0 : Int32))) 67 (9 : Int32).toNatClampNeg (f_X12_word fu (105 : Int32) (102 : Int32) (0 : Int32) (0 : Int32) (0 : Int32) (0 : Int32) (0 : Int32))) 67 (10 : Int32).toNatClampNeg (f_X12_word fu (116 : Int32) (104 : Int32) (101 : Int32) (110 : Int32) (0 : Int32) (0 : Int32) (0 : Int32))) 67 (11 : Int32).toNatClampNeg (f_X12_word fu (101 : Int32) (108 : Int32) (115 : Int32) (101 : Int32) (0 : Int32) (0 : Int32) (0 : Int32))) 67 (12 : Int32).toNatClampNeg (f_X12_word fu (115 : Int32) (105 : Int32) (103 : Int32) (110 : Int32) (0 : Int32) (0 : Int32) (0 : Int32))) 67 (13 : Int32).toNatClampNeg (f_X12_word fu (97 : Int32) (99 : Int32) (114 : Int32) (111 : Int32) (115 : Int32) (115 : Int32) (0 : Int32))) 67 (14 : Int32).toNatClampNeg (f_X12_word fu (100 : Int32) (111 : Int32) (119 : Int32) (110 : Int32) (0 : Int32) (0 : Int32) (0 : Int32))) 67 (15 : Int32).toNatClampNeg (f_X12_word fu (104 : Int32) (111 : Int32) (117 : Int32) (114 : Int32) (0 : Int32) (0 : Int32) (0 : Int32))) 67 (16 : Int32).toNatClampNeg (f_X12_word fu (108 : Int32) (97 : Int32) (105 : Int32) (110 : Int32) (0 : Int32) (0 : Int32) (0 : Int32))) 67 (17 : Int32).toNatClampNeg (f_X12_word fu (104 : Int32) (97 : Int32) (116 : Int32) (0 : Int32) (0 : Int32) (0 : Int32) (0 : Int32))) 67 (18 : Int32).toNatClampNeg (f_X12_word fu (104 : Int32) (97 : Int32) (115 : Int32) (0 : Int32) (0 : Int32) (0 : Int32) (0 : Int32))) 67 (19 : Int32).toNatClampNeg (f_X12_word fu (104 : Int32) (101 : Int32) (114 : Int32) (101 : Int32) (0 : Int32) (0 : Int32) (0 : Int32))) 67 (20 : Int32).toNatClampNeg (f_X12_word fu (119 : Int32) (104 : Int32) (105 : Int32) (99 : Int32) (104 : Int32) (0 : Int32) (0 : Int32)))).2).2)

def p_X12_init (fu : Nat) (s : fl_I) (l : fl_L) : Prop :=
  (p_X12_plain fu (0 : Int32) s l) ∧ (p_X12_plain fu (1 : Int32) (f_X12_plain fu (0 : Int32) s l).1 (f_X12_plain fu (0 : Int32) s l).2) ∧ (p_X12_word fu (108 : Int32) (101 : Int32) (116 : Int32) (116 : Int32) (101 : Int32) (114 : Int32) (0 : Int32)) ∧ (p_X12_word fu (119 : Int32) (111 : Int32) (114 : Int32) (100 : Int32) (0 : Int32) (0 : Int32) (0 : Int32)) ∧ (p_X12_word fu (112 : Int32) (105 : Int32) (99 : Int32) (107 : Int32) (101 : Int32) (114 : Int32) (0 : Int32)) ∧ (p_X12_word fu (98 : Int32) (108 : Int32) (111 : Int32) (119 : Int32) (115 : Int32) (0 : Int32) (0 : Int32)) ∧ (p_X12_word fu (116 : Int32) (97 : Int32) (107 : Int32) (101 : Int32) (115 : Int32) (0 : Int32) (0 : Int32)) ∧ (p_X12_word fu (112 : Int32) (97 : Int32) (121 : Int32) (115 : Int32) (0 : Int32) (0 : Int32) (0 : Int32)) ∧ (p_X12_word fu (119 : Int32) (105 : Int32) (110 : Int32) (100 : Int32) (0 : Int32) (0 : Int32) (0 : Int32)) ∧ (p_X12_word fu (114 : Int32) (97 : Int32) (105 : Int32) (110 : Int32) (0 : Int32) (0 : Int32) (0 : Int32)) ∧ (p_X12_word fu (115 : Int32) (101 : Int32) (101 : Int32) (100 : Int32) (0 : Int32) (0 : Int32) (0 : Int32)) ∧ (p_X12_word fu (105 : Int32) (102 : Int32) (0 : Int32) (0 : Int32) (0 : Int32) (0 : Int32) (0 : Int32)) ∧ (p_X12_word fu (116 : Int32) (104 : Int32) (101 : Int32) (110 : Int32) (0 : Int32) (0 : Int32) (0 : Int32)) ∧ (p_X12_word fu (101 : Int32) (108 : Int32) (115 : Int32) (101 : Int32) (0 : Int32) (0 : Int32) (0 : Int32)) ∧ (p_X12_word fu (115 : Int32) (105 : Int32) (103 : Int32) (110 : Int32) (0 : Int32) (0 : Int32) (0 : Int32)) ∧ (p_X12_word fu (97 : Int32) (99 : Int32) (114 : Int32) (111 : Int32) (115 : Int32) (115 : Int32) (0 : Int32)) ∧ (p_X12_word fu (100 : Int32) (111 : Int32) (119 : Int32) (110 : Int32) (0 : Int32) (0 : Int32) (0 : Int32)) ∧ (p_X12_word fu (104 : Int32) (111 : Int32) (117 : Int32) (114 : Int32) (0 : Int32) (0 : Int32) (0 : Int32)) ∧ (p_X12_word fu (108 : Int32) (97 : Int32) (105 : Int32) (110 : Int32) (0 : Int32) (0 : Int32) (0 : Int32)) ∧ (p_X12_word fu (104 : Int32) (97 : Int32) (116 : Int32) (0 : Int32) (0 : Int32) (0 : Int32) (0 : Int32)) ∧ (p_X12_word fu (104 : Int32) (97 : Int32) (115 : Int32) (0 : Int32) (0 : Int32) (0 : Int32) (0 : Int32)) ∧ (p_X12_word fu (104 : Int32) (101 : Int32) (114 : Int32) (101 : Int32) (0 : Int32) (0 : Int32) (0 : Int32)) ∧ (p_X12_word fu (119 : Int32) (104 : Int32) (105 : Int32) (99 : Int32) (104 : Int32) (0 : Int32) (0 : Int32)) ∧ (p_X12_begins fu (f_X12_plain fu (1 : Int32) (f_X12_plain fu (0 : Int32) s l).1 (f_X12_plain fu (0 : Int32) s l).2).1 (wl (wl (wl (wl (wl (wl (wl (wl (wl (wl (wl (wl (wl (wl (wl (wl (wl (wl (wl (wl (wl (f_X12_plain fu (1 : Int32) (f_X12_plain fu (0 : Int32) s l).1 (f_X12_plain fu (0 : Int32) s l).2).2 67 (0 : Int32).toNatClampNeg (f_X12_word fu (108 : Int32) (101 : Int32) (116 : Int32) (116 : Int32) (101 : Int32) (114 : Int32) (0 : Int32))) 67 (1 : Int32).toNatClampNeg (f_X12_word fu (119 : Int32) (111 : Int32) (114 : Int32) (100 : Int32) (0 : Int32) (0 : Int32) (0 : Int32))) 67 (2 : Int32).toNatClampNeg (f_X12_word fu (112 : Int32) (105 : Int32) (99 : Int32) (107 : Int32) (101 : Int32) (114 : Int32) (0 : Int32))) 67 (3 : Int32).toNatClampNeg (f_X12_word fu (98 : Int32) (108 : Int32) (111 : Int32) (119 : Int32) (115 : Int32) (0 : Int32) (0 : Int32))) 67 (4 : Int32).toNatClampNeg (f_X12_word fu (116 : Int32) (97 : Int32) (107 : Int32) (101 : Int32) (115 : Int32) (0 : Int32) (0 : Int32))) 67 (5 : Int32).toNatClampNeg (f_X12_word fu (112 : Int32) (97 : Int32) (121 : Int32) (115 : Int32) (0 : Int32) (0 : Int32) (0 : Int32))) 67 (6 : Int32).toNatClampNeg (f_X12_word fu (119 : Int32) (105 : Int32) (110 : Int32) (100 : Int32) (0 : Int32) (0 : Int32) (0 : Int32))) 67 (7 : Int32).toNatClampNeg (f_X12_word fu (114 : Int32) (97 : Int32) (105 : Int32) (110 : Int32) (0 : Int32) (0 : Int32) (0 : Int32))) 67 (8 : Int32).toNatClampNeg (f_X12_word fu (115 : Int32) (101 : Int32) (101 : Int32) (100 : Int32) (0 : Int32) (0 : Int32) (0 : Int32))) 67 (9 : Int32).toNatClampNeg (f_X12_word fu (105 : Int32) (102 : Int32) (0 : Int32) (0 : Int32) (0 : Int32) (0 : Int32) (0 : Int32))) 67 (10 : Int32).toNatClampNeg (f_X12_word fu (116 : Int32) (104 : Int32) (101 : Int32) (110 : Int32) (0 : Int32) (0 : Int32) (0 : Int32))) 67 (11 : Int32).toNatClampNeg (f_X12_word fu (101 : Int32) (108 : Int32) (115 : Int32) (101 : Int32) (0 : Int32) (0 : Int32) (0 : Int32))) 67 (12 : Int32).toNatClampNeg (f_X12_word fu (115 : Int32) (105 : Int32) (103 : Int32) (110 : Int32) (0 : Int32) (0 : Int32) (0 : Int32))) 67 (13 : Int32).toNatClampNeg (f_X12_word fu (97 : Int32) (99 : Int32) (114 : Int32) (111 : Int32) (115 : Int32) (115 : Int32) (0 : Int32))) 67 (14 : Int32).toNatClampNeg (f_X12_word fu (100 : Int32) (111 : Int32) (119 : Int32) (110 : Int32) (0 : Int32) (0 : Int32) (0 : Int32))) 67 (15 : Int32).toNatClampNeg (f_X12_word fu (104 : Int32) (111 : Int32) (117 : Int32) (114 : Int32) (0 : Int32) (0 : Int32) (0 : Int32))) 67 (16 : Int32).toNatClampNeg (f_X12_word fu (108 : Int32) (97 : Int32) (105 : Int32) (110 : Int32) (0 : Int32) (0 : Int32) (0 : Int32))) 67 (17 : Int32).toNatClampNeg (f_X12_word fu (104 : Int32) (97 : Int32) (116 : Int32) (0 : Int32) (0 : Int32) (0 : Int32) (0 : Int32))) 67 (18 : Int32).toNatClampNeg (f_X12_word fu (104 : Int32) (97 : Int32) (115 : Int32) (0 : Int32) (0 : Int32) (0 : Int32) (0 : Int32))) 67 (19 : Int32).toNatClampNeg (f_X12_word fu (104 : Int32) (101 : Int32) (114 : Int32) (101 : Int32) (0 : Int32) (0 : Int32) (0 : Int32))) 67 (20 : Int32).toNatClampNeg (f_X12_word fu (119 : Int32) (104 : Int32) (105 : Int32) (99 : Int32) (104 : Int32) (0 : Int32) (0 : Int32)))) ∧ (p_X12_keepsRow fu (f_X12_begins fu (f_X12_plain fu (1 : Int32) (f_X12_plain fu (0 : Int32) s l).1 (f_X12_plain fu (0 : Int32) s l).2).1 (wl (wl (wl (wl (wl (wl (wl (wl (wl (wl (wl (wl (wl (wl (wl (wl (wl (wl (wl (wl (wl (f_X12_plain fu (1 : Int32) (f_X12_plain fu (0 : Int32) s l).1 (f_X12_plain fu (0 : Int32) s l).2).2 67 (0 : Int32).toNatClampNeg (f_X12_word fu (108 : Int32) (101 : Int32) (116 : Int32) (116 : Int32) (101 : Int32) (114 : Int32) (0 : Int32))) 67 (1 : Int32).toNatClampNeg (f_X12_word fu (119 : Int32) (111 : Int32) (114 : Int32) (100 : Int32) (0 : Int32) (0 : Int32) (0 : Int32))) 67 (2 : Int32).toNatClampNeg (f_X12_word fu (112 : Int32) (105 : Int32) (99 : Int32) (107 : Int32) (101 : Int32) (114 : Int32) (0 : Int32))) 67 (3 : Int32).toNatClampNeg (f_X12_word fu (98 : Int32) (108 : Int32) (111 : Int32) (119 : Int32) (115 : Int32) (0 : Int32) (0 : Int32))) 67 (4 : Int32).toNatClampNeg (f_X12_word fu (116 : Int32) (97 : Int32) (107 : Int32) (101 : Int32) (115 : Int32) (0 : Int32) (0 : Int32))) 67 (5 : Int32).toNatClampNeg (f_X12_word fu (112 : Int32) (97 : Int32) (121 : Int32) (115 : Int32) (0 : Int32) (0 : Int32) (0 : Int32))) 67 (6 : Int32).toNatClampNeg (f_X12_word fu (119 : Int32) (105 : Int32) (110 : Int32) (100 : Int32) (0 : Int32) (0 : Int32) (0 : Int32))) 67 (7 : Int32).toNatClampNeg (f_X12_word fu (114 : Int32) (97 : Int32) (105 : Int32) (110 : Int32) (0 : Int32) (0 : Int32) (0 : Int32))) 67 (8 : Int32).toNatClampNeg (f_X12_word fu (115 : Int32) (101 : Int32) (101 : Int32) (100 : Int32) (0 : Int32) (0 : Int32) (0 : Int32))) 67 (9 : Int32).toNatClampNeg (f_X12_word fu (105 : Int32) (102 : Int32) (0 : Int32) (0 : Int32) (0 : Int32) (0 : Int32) (0 : Int32))) 67 (10 : Int32).toNatClampNeg (f_X12_word fu (116 : Int32) (104 : Int32) (101 : Int32) (110 : Int32) (0 : Int32) (0 : Int32) (0 : Int32))) 67 (11 : Int32).toNatClampNeg (f_X12_word fu (101 : Int32) (108 : Int32) (115 : Int32) (101 : Int32) (0 : Int32) (0 : Int32) (0 : Int32))) 67 (12 : Int32).toNatClampNeg (f_X12_word fu (115 : Int32) (105 : Int32) (103 : Int32) (110 : Int32) (0 : Int32) (0 : Int32) (0 : Int32))) 67 (13 : Int32).toNatClampNeg (f_X12_word fu (97 : Int32) (99 : Int32) (114 : Int32) (111 : Int32) (115 : Int32) (115 : Int32) (0 : Int32))) 67 (14 : Int32).toNatClampNeg (f_X12_word fu (100 : Int32) (111 : Int32) (119 : Int32) (110 : Int32) (0 : Int32) (0 : Int32) (0 : Int32))) 67 (15 : Int32).toNatClampNeg (f_X12_word fu (104 : Int32) (111 : Int32) (117 : Int32) (114 : Int32) (0 : Int32) (0 : Int32) (0 : Int32))) 67 (16 : Int32).toNatClampNeg (f_X12_word fu (108 : Int32) (97 : Int32) (105 : Int32) (110 : Int32) (0 : Int32) (0 : Int32) (0 : Int32))) 67 (17 : Int32).toNatClampNeg (f_X12_word fu (104 : Int32) (97 : Int32) (116 : Int32) (0 : Int32) (0 : Int32) (0 : Int32) (0 : Int32))) 67 (18 : Int32).toNatClampNeg (f_X12_word fu (104 : Int32) (97 : Int32) (115 : Int32) (0 : Int32) (0 : Int32) (0 : Int32) (0 : Int32))) 67 (19 : Int32).toNatClampNeg (f_X12_word fu (104 : Int32) (101 : Int32) (114 : Int32) (101 : Int32) (0 : Int32) (0 : Int32) (0 : Int32))) 67 (20 : Int32).toNatClampNeg (f_X12_word fu (119 : Int32) (104 : Int32) (105 : Int32) (99 : Int32) (104 : Int32) (0 : Int32) (0 : Int32)))).1 (f_X12_begins fu (f_X12_plain fu (1 : Int32) (f_X12_plain fu (0 : Int32) s l).1 (f_X12_plain fu (0 : Int32) s l).2).1 (wl (wl (wl (wl (wl (wl (wl (wl (wl (wl (wl (wl (wl (wl (wl (wl (wl (wl (wl (wl (wl (f_X12_plain fu (1 : Int32) (f_X12_plain fu (0 : Int32) s l).1 (f_X12_plain fu (0 : Int32) s l).2).2 67 (0 : Int32).toNatClampNeg (f_X12_word fu (108 : Int32) (101 : Int32) (116 : Int32) (116 : Int32) (101 : Int32) (114 : Int32) (0 : Int32))) 67 (1 : Int32).toNatClampNeg (f_X12_word fu (119 : Int32) (111 : Int32) (114 : Int32) (100 : Int32) (0 : Int32) (0 : Int32) (0 : Int32))) 67 (2 : Int32).toNatClampNeg (f_X12_word fu (112 : Int32) (105 : Int32) (99 : Int32) (107 : Int32) (101 : Int32) (114 : Int32) (0 : Int32))) 67 (3 : Int32).toNatClampNeg (f_X12_word fu (98 : Int32) (108 : Int32) (111 : Int32) (119 : Int32) (115 : Int32) (0 : Int32) (0 : Int32))) 67 (4 : Int32).toNatClampNeg (f_X12_word fu (116 : Int32) (97 : Int32) (107 : Int32) (101 : Int32) (115 : Int32) (0 : Int32) (0 : Int32))) 67 (5 : Int32).toNatClampNeg (f_X12_word fu (112 : Int32) (97 : Int32) (121 : Int32) (115 : Int32) (0 : Int32) (0 : Int32) (0 : Int32))) 67 (6 : Int32).toNatClampNeg (f_X12_word fu (119 : Int32) (105 : Int32) (110 : Int32) (100 : Int32) (0 : Int32) (0 : Int32) (0 : Int32))) 67 (7 : Int32).toNatClampNeg (f_X12_word fu (114 : Int32) (97 : Int32) (105 : Int32) (110 : Int32) (0 : Int32) (0 : Int32) (0 : Int32))) 67 (8 : Int32).toNatClampNeg (f_X12_word fu (115 : Int32) (101 : Int32) (101 : Int32) (100 : Int32) (0 : Int32) (0 : Int32) (0 : Int32))) 67 (9 : Int32).toNatClampNeg (f_X12_word fu (105 : Int32) (102 : Int32) (0 : Int32) (0 : Int32) (0 : Int32) (0 : Int32) (0 : Int32))) 67 (10 : Int32).toNatClampNeg (f_X12_word fu (116 : Int32) (104 : Int32) (101 : Int32) (110 : Int32) (0 : Int32) (0 : Int32) (0 : Int32))) 67 (11 : Int32).toNatClampNeg (f_X12_word fu (101 : Int32) (108 : Int32) (115 : Int32) (101 : Int32) (0 : Int32) (0 : Int32) (0 : Int32))) 67 (12 : Int32).toNatClampNeg (f_X12_word fu (115 : Int32) (105 : Int32) (103 : Int32) (110 : Int32) (0 : Int32) (0 : Int32) (0 : Int32))) 67 (13 : Int32).toNatClampNeg (f_X12_word fu (97 : Int32) (99 : Int32) (114 : Int32) (111 : Int32) (115 : Int32) (115 : Int32) (0 : Int32))) 67 (14 : Int32).toNatClampNeg (f_X12_word fu (100 : Int32) (111 : Int32) (119 : Int32) (110 : Int32) (0 : Int32) (0 : Int32) (0 : Int32))) 67 (15 : Int32).toNatClampNeg (f_X12_word fu (104 : Int32) (111 : Int32) (117 : Int32) (114 : Int32) (0 : Int32) (0 : Int32) (0 : Int32))) 67 (16 : Int32).toNatClampNeg (f_X12_word fu (108 : Int32) (97 : Int32) (105 : Int32) (110 : Int32) (0 : Int32) (0 : Int32) (0 : Int32))) 67 (17 : Int32).toNatClampNeg (f_X12_word fu (104 : Int32) (97 : Int32) (116 : Int32) (0 : Int32) (0 : Int32) (0 : Int32) (0 : Int32))) 67 (18 : Int32).toNatClampNeg (f_X12_word fu (104 : Int32) (97 : Int32) (115 : Int32) (0 : Int32) (0 : Int32) (0 : Int32) (0 : Int32))) 67 (19 : Int32).toNatClampNeg (f_X12_word fu (104 : Int32) (101 : Int32) (114 : Int32) (101 : Int32) (0 : Int32) (0 : Int32) (0 : Int32))) 67 (20 : Int32).toNatClampNeg (f_X12_word fu (119 : Int32) (104 : Int32) (105 : Int32) (99 : Int32) (104 : Int32) (0 : Int32) (0 : Int32)))).2) ∧ True

set_option maxRecDepth 100000 in
set_option maxHeartbeats 1000000 in
theorem s_X12_init {G : ab_G} {fu : Nat} {d : Nat} {D : fl_D} {s : fl_I} {l : fl_L}  (hk : p_X12_init fu s l) : ab_C G (d + 3) 0 0 M_X12_init 389 [some (.ref 60)] [] (hp D s l) (rt none (hp D (f_X12_init fu s l).1 (f_X12_init fu s l).2)) := by
  generalize he : (f_X12_init fu s l) = res
  unfold f_X12_init at he
  unfold p_X12_init at hk
  refine r_weak (L1 := [some (.ref 60)]) ⟨rfl, trivial⟩ ?_
  refine r_aload_n rfl rfl ?_
  refine r_iconst_ (a := 0) rfl (by decide) ?_
  obtain ⟨hb0, hk⟩ := hk
  refine q_callV0 [_] _ rfl kY_X12_plain kT_X12_plain rfl rfl (Nat.le_of_ble_eq_true rfl) (Nat.le_of_ble_eq_true rfl) (cc_60 _) (s_X12_plain hb0) (fun r h q => ?_)
  obtain ⟨rfl, rfl⟩ := q
  simp only [Option.toList, List.cons_append, List.nil_append]
  refine r_aload_n rfl rfl ?_
  refine r_iconst_ (a := 1) rfl (by decide) ?_
  obtain ⟨hb1, hk⟩ := hk
  refine q_callV0 [_] _ rfl kY_X12_plain kT_X12_plain rfl rfl (Nat.le_of_ble_eq_true rfl) (Nat.le_of_ble_eq_true rfl) (cc_60 _) (s_X12_plain hb1) (fun r h q => ?_)
  obtain ⟨rfl, rfl⟩ := q
  simp only [Option.toList, List.cons_append, List.nil_append]
  refine r_aload_n rfl rfl ?_
  refine q_getfield rfl (cc_60 _) rfl ?_
  refine r_iconst_ (a := 0) rfl (by decide) ?_
  refine r_bipush_ (a := 108) rfl (by decide) ?_
  refine r_bipush_ (a := 101) rfl (by decide) ?_
  refine r_bipush_ (a := 116) rfl (by decide) ?_
  refine r_bipush_ (a := 116) rfl (by decide) ?_
  refine r_bipush_ (a := 101) rfl (by decide) ?_
  refine r_bipush_ (a := 114) rfl (by decide) ?_
  refine r_iconst_ (a := 0) rfl (by decide) ?_
  obtain ⟨hb2, hk⟩ := hk
  refine r_callS0 [_, _, _, _, _, _, _] _ rfl kY_X12_word kT_X12_word rfl rfl (Nat.le_of_ble_eq_true rfl) (Nat.le_of_ble_eq_true rfl) (s_X12_word hb2) (fun r h q => ?_)
  obtain ⟨rfl, rfl⟩ := q
  simp only [Option.toList, List.cons_append, List.nil_append]
  refine w_last rfl (cc_67 _) (by unfold vp_in; decide) ?_
  refine r_aload_n rfl rfl ?_
  refine q_getfield rfl (cc_60 _) rfl ?_
  refine r_iconst_ (a := 1) rfl (by decide) ?_
  refine r_bipush_ (a := 119) rfl (by decide) ?_
  refine r_bipush_ (a := 111) rfl (by decide) ?_
  refine r_bipush_ (a := 114) rfl (by decide) ?_
  refine r_bipush_ (a := 100) rfl (by decide) ?_
  refine r_iconst_ (a := 0) rfl (by decide) ?_
  refine r_iconst_ (a := 0) rfl (by decide) ?_
  refine r_iconst_ (a := 0) rfl (by decide) ?_
  obtain ⟨hb3, hk⟩ := hk
  refine r_callS0 [_, _, _, _, _, _, _] _ rfl kY_X12_word kT_X12_word rfl rfl (Nat.le_of_ble_eq_true rfl) (Nat.le_of_ble_eq_true rfl) (s_X12_word hb3) (fun r h q => ?_)
  obtain ⟨rfl, rfl⟩ := q
  simp only [Option.toList, List.cons_append, List.nil_append]
  refine w_last rfl (cc_67 _) (by unfold vp_in; decide) ?_
  refine r_aload_n rfl rfl ?_
  refine q_getfield rfl (cc_60 _) rfl ?_
  refine r_iconst_ (a := 2) rfl (by decide) ?_
  refine r_bipush_ (a := 112) rfl (by decide) ?_
  refine r_bipush_ (a := 105) rfl (by decide) ?_
  refine r_bipush_ (a := 99) rfl (by decide) ?_
  refine r_bipush_ (a := 107) rfl (by decide) ?_
  refine r_bipush_ (a := 101) rfl (by decide) ?_
  refine r_bipush_ (a := 114) rfl (by decide) ?_
  refine r_iconst_ (a := 0) rfl (by decide) ?_
  obtain ⟨hb4, hk⟩ := hk
  refine r_callS0 [_, _, _, _, _, _, _] _ rfl kY_X12_word kT_X12_word rfl rfl (Nat.le_of_ble_eq_true rfl) (Nat.le_of_ble_eq_true rfl) (s_X12_word hb4) (fun r h q => ?_)
  obtain ⟨rfl, rfl⟩ := q
  simp only [Option.toList, List.cons_append, List.nil_append]
  refine w_last rfl (cc_67 _) (by unfold vp_in; decide) ?_
  refine r_aload_n rfl rfl ?_
  refine q_getfield rfl (cc_60 _) rfl ?_
  refine r_iconst_ (a := 3) rfl (by decide) ?_
  refine r_bipush_ (a := 98) rfl (by decide) ?_
  refine r_bipush_ (a := 108) rfl (by decide) ?_
  refine r_bipush_ (a := 111) rfl (by decide) ?_
  refine r_bipush_ (a := 119) rfl (by decide) ?_
  refine r_bipush_ (a := 115) rfl (by decide) ?_
  refine r_iconst_ (a := 0) rfl (by decide) ?_
  refine r_iconst_ (a := 0) rfl (by decide) ?_
  obtain ⟨hb5, hk⟩ := hk
  refine r_callS0 [_, _, _, _, _, _, _] _ rfl kY_X12_word kT_X12_word rfl rfl (Nat.le_of_ble_eq_true rfl) (Nat.le_of_ble_eq_true rfl) (s_X12_word hb5) (fun r h q => ?_)
  obtain ⟨rfl, rfl⟩ := q
  simp only [Option.toList, List.cons_append, List.nil_append]
  refine w_last rfl (cc_67 _) (by unfold vp_in; decide) ?_
  refine r_aload_n rfl rfl ?_
  refine q_getfield rfl (cc_60 _) rfl ?_
  refine r_iconst_ (a := 4) rfl (by decide) ?_
  refine r_bipush_ (a := 116) rfl (by decide) ?_
  refine r_bipush_ (a := 97) rfl (by decide) ?_
  refine r_bipush_ (a := 107) rfl (by decide) ?_
  refine r_bipush_ (a := 101) rfl (by decide) ?_
  refine r_bipush_ (a := 115) rfl (by decide) ?_
  refine r_iconst_ (a := 0) rfl (by decide) ?_
  refine r_iconst_ (a := 0) rfl (by decide) ?_
  obtain ⟨hb6, hk⟩ := hk
  refine r_callS0 [_, _, _, _, _, _, _] _ rfl kY_X12_word kT_X12_word rfl rfl (Nat.le_of_ble_eq_true rfl) (Nat.le_of_ble_eq_true rfl) (s_X12_word hb6) (fun r h q => ?_)
  obtain ⟨rfl, rfl⟩ := q
  simp only [Option.toList, List.cons_append, List.nil_append]
  refine w_last rfl (cc_67 _) (by unfold vp_in; decide) ?_
  refine r_aload_n rfl rfl ?_
  refine q_getfield rfl (cc_60 _) rfl ?_
  refine r_iconst_ (a := 5) rfl (by decide) ?_
  refine r_bipush_ (a := 112) rfl (by decide) ?_
  refine r_bipush_ (a := 97) rfl (by decide) ?_
  refine r_bipush_ (a := 121) rfl (by decide) ?_
  refine r_bipush_ (a := 115) rfl (by decide) ?_
  refine r_iconst_ (a := 0) rfl (by decide) ?_
  refine r_iconst_ (a := 0) rfl (by decide) ?_
  refine r_iconst_ (a := 0) rfl (by decide) ?_
  obtain ⟨hb7, hk⟩ := hk
  refine r_callS0 [_, _, _, _, _, _, _] _ rfl kY_X12_word kT_X12_word rfl rfl (Nat.le_of_ble_eq_true rfl) (Nat.le_of_ble_eq_true rfl) (s_X12_word hb7) (fun r h q => ?_)
  obtain ⟨rfl, rfl⟩ := q
  simp only [Option.toList, List.cons_append, List.nil_append]
  refine w_last rfl (cc_67 _) (by unfold vp_in; decide) ?_
  refine r_aload_n rfl rfl ?_
  refine q_getfield rfl (cc_60 _) rfl ?_
  refine r_bipush_ (a := 6) rfl (by decide) ?_
  refine r_bipush_ (a := 119) rfl (by decide) ?_
  refine r_bipush_ (a := 105) rfl (by decide) ?_
  refine r_bipush_ (a := 110) rfl (by decide) ?_
  refine r_bipush_ (a := 100) rfl (by decide) ?_
  refine r_iconst_ (a := 0) rfl (by decide) ?_
  refine r_iconst_ (a := 0) rfl (by decide) ?_
  refine r_iconst_ (a := 0) rfl (by decide) ?_
  obtain ⟨hb8, hk⟩ := hk
  refine r_callS0 [_, _, _, _, _, _, _] _ rfl kY_X12_word kT_X12_word rfl rfl (Nat.le_of_ble_eq_true rfl) (Nat.le_of_ble_eq_true rfl) (s_X12_word hb8) (fun r h q => ?_)
  obtain ⟨rfl, rfl⟩ := q
  simp only [Option.toList, List.cons_append, List.nil_append]
  refine w_last rfl (cc_67 _) (by unfold vp_in; decide) ?_
  refine r_aload_n rfl rfl ?_
  refine q_getfield rfl (cc_60 _) rfl ?_
  refine r_bipush_ (a := 7) rfl (by decide) ?_
  refine r_bipush_ (a := 114) rfl (by decide) ?_
  refine r_bipush_ (a := 97) rfl (by decide) ?_
  refine r_bipush_ (a := 105) rfl (by decide) ?_
  refine r_bipush_ (a := 110) rfl (by decide) ?_
  refine r_iconst_ (a := 0) rfl (by decide) ?_
  refine r_iconst_ (a := 0) rfl (by decide) ?_
  refine r_iconst_ (a := 0) rfl (by decide) ?_
  obtain ⟨hb9, hk⟩ := hk
  refine r_callS0 [_, _, _, _, _, _, _] _ rfl kY_X12_word kT_X12_word rfl rfl (Nat.le_of_ble_eq_true rfl) (Nat.le_of_ble_eq_true rfl) (s_X12_word hb9) (fun r h q => ?_)
  obtain ⟨rfl, rfl⟩ := q
  simp only [Option.toList, List.cons_append, List.nil_append]
  refine w_last rfl (cc_67 _) (by unfold vp_in; decide) ?_
  refine r_aload_n rfl rfl ?_
  refine q_getfield rfl (cc_60 _) rfl ?_
  refine r_bipush_ (a := 8) rfl (by decide) ?_
  refine r_bipush_ (a := 115) rfl (by decide) ?_
  refine r_bipush_ (a := 101) rfl (by decide) ?_
  refine r_bipush_ (a := 101) rfl (by decide) ?_
  refine r_bipush_ (a := 100) rfl (by decide) ?_
  refine r_iconst_ (a := 0) rfl (by decide) ?_
  refine r_iconst_ (a := 0) rfl (by decide) ?_
  refine r_iconst_ (a := 0) rfl (by decide) ?_
  obtain ⟨hb10, hk⟩ := hk
  refine r_callS0 [_, _, _, _, _, _, _] _ rfl kY_X12_word kT_X12_word rfl rfl (Nat.le_of_ble_eq_true rfl) (Nat.le_of_ble_eq_true rfl) (s_X12_word hb10) (fun r h q => ?_)
  obtain ⟨rfl, rfl⟩ := q
  simp only [Option.toList, List.cons_append, List.nil_append]
  refine w_last rfl (cc_67 _) (by unfold vp_in; decide) ?_
  refine r_aload_n rfl rfl ?_
  refine q_getfield rfl (cc_60 _) rfl ?_
  refine r_bipush_ (a := 9) rfl (by decide) ?_
  refine r_bipush_ (a := 105) rfl (by decide) ?_
  refine r_bipush_ (a := 102) rfl (by decide) ?_
  refine r_iconst_ (a := 0) rfl (by decide) ?_
  refine r_iconst_ (a := 0) rfl (by decide) ?_
  refine r_iconst_ (a := 0) rfl (by decide) ?_
  refine r_iconst_ (a := 0) rfl (by decide) ?_
  refine r_iconst_ (a := 0) rfl (by decide) ?_
  obtain ⟨hb11, hk⟩ := hk
  refine r_callS0 [_, _, _, _, _, _, _] _ rfl kY_X12_word kT_X12_word rfl rfl (Nat.le_of_ble_eq_true rfl) (Nat.le_of_ble_eq_true rfl) (s_X12_word hb11) (fun r h q => ?_)
  obtain ⟨rfl, rfl⟩ := q
  simp only [Option.toList, List.cons_append, List.nil_append]
  refine w_last rfl (cc_67 _) (by unfold vp_in; decide) ?_
  refine r_aload_n rfl rfl ?_
  refine q_getfield rfl (cc_60 _) rfl ?_
  refine r_bipush_ (a := 10) rfl (by decide) ?_
  refine r_bipush_ (a := 116) rfl (by decide) ?_
  refine r_bipush_ (a := 104) rfl (by decide) ?_
  refine r_bipush_ (a := 101) rfl (by decide) ?_
  refine r_bipush_ (a := 110) rfl (by decide) ?_
  refine r_iconst_ (a := 0) rfl (by decide) ?_
  refine r_iconst_ (a := 0) rfl (by decide) ?_
  refine r_iconst_ (a := 0) rfl (by decide) ?_
  obtain ⟨hb12, hk⟩ := hk
  refine r_callS0 [_, _, _, _, _, _, _] _ rfl kY_X12_word kT_X12_word rfl rfl (Nat.le_of_ble_eq_true rfl) (Nat.le_of_ble_eq_true rfl) (s_X12_word hb12) (fun r h q => ?_)
  obtain ⟨rfl, rfl⟩ := q
  simp only [Option.toList, List.cons_append, List.nil_append]
  refine w_last rfl (cc_67 _) (by unfold vp_in; decide) ?_
  refine r_aload_n rfl rfl ?_
  refine q_getfield rfl (cc_60 _) rfl ?_
  refine r_bipush_ (a := 11) rfl (by decide) ?_
  refine r_bipush_ (a := 101) rfl (by decide) ?_
  refine r_bipush_ (a := 108) rfl (by decide) ?_
  refine r_bipush_ (a := 115) rfl (by decide) ?_
  refine r_bipush_ (a := 101) rfl (by decide) ?_
  refine r_iconst_ (a := 0) rfl (by decide) ?_
  refine r_iconst_ (a := 0) rfl (by decide) ?_
  refine r_iconst_ (a := 0) rfl (by decide) ?_
  obtain ⟨hb13, hk⟩ := hk
  refine r_callS0 [_, _, _, _, _, _, _] _ rfl kY_X12_word kT_X12_word rfl rfl (Nat.le_of_ble_eq_true rfl) (Nat.le_of_ble_eq_true rfl) (s_X12_word hb13) (fun r h q => ?_)
  obtain ⟨rfl, rfl⟩ := q
  simp only [Option.toList, List.cons_append, List.nil_append]
  refine w_last rfl (cc_67 _) (by unfold vp_in; decide) ?_
  refine r_aload_n rfl rfl ?_
  refine q_getfield rfl (cc_60 _) rfl ?_
  refine r_bipush_ (a := 12) rfl (by decide) ?_
  refine r_bipush_ (a := 115) rfl (by decide) ?_
  refine r_bipush_ (a := 105) rfl (by decide) ?_
  refine r_bipush_ (a := 103) rfl (by decide) ?_
  refine r_bipush_ (a := 110) rfl (by decide) ?_
  refine r_iconst_ (a := 0) rfl (by decide) ?_
  refine r_iconst_ (a := 0) rfl (by decide) ?_
  refine r_iconst_ (a := 0) rfl (by decide) ?_
  obtain ⟨hb14, hk⟩ := hk
  refine r_callS0 [_, _, _, _, _, _, _] _ rfl kY_X12_word kT_X12_word rfl rfl (Nat.le_of_ble_eq_true rfl) (Nat.le_of_ble_eq_true rfl) (s_X12_word hb14) (fun r h q => ?_)
  obtain ⟨rfl, rfl⟩ := q
  simp only [Option.toList, List.cons_append, List.nil_append]
  refine w_last rfl (cc_67 _) (by unfold vp_in; decide) ?_
  refine r_aload_n rfl rfl ?_
  refine q_getfield rfl (cc_60 _) rfl ?_
  refine r_bipush_ (a := 13) rfl (by decide) ?_
  refine r_bipush_ (a := 97) rfl (by decide) ?_
  refine r_bipush_ (a := 99) rfl (by decide) ?_
  refine r_bipush_ (a := 114) rfl (by decide) ?_
  refine r_bipush_ (a := 111) rfl (by decide) ?_
  refine r_bipush_ (a := 115) rfl (by decide) ?_
  refine r_bipush_ (a := 115) rfl (by decide) ?_
  refine r_iconst_ (a := 0) rfl (by decide) ?_
  obtain ⟨hb15, hk⟩ := hk
  refine r_callS0 [_, _, _, _, _, _, _] _ rfl kY_X12_word kT_X12_word rfl rfl (Nat.le_of_ble_eq_true rfl) (Nat.le_of_ble_eq_true rfl) (s_X12_word hb15) (fun r h q => ?_)
  obtain ⟨rfl, rfl⟩ := q
  simp only [Option.toList, List.cons_append, List.nil_append]
  refine w_last rfl (cc_67 _) (by unfold vp_in; decide) ?_
  refine r_aload_n rfl rfl ?_
  refine q_getfield rfl (cc_60 _) rfl ?_
  refine r_bipush_ (a := 14) rfl (by decide) ?_
  refine r_bipush_ (a := 100) rfl (by decide) ?_
  refine r_bipush_ (a := 111) rfl (by decide) ?_
  refine r_bipush_ (a := 119) rfl (by decide) ?_
  refine r_bipush_ (a := 110) rfl (by decide) ?_
  refine r_iconst_ (a := 0) rfl (by decide) ?_
  refine r_iconst_ (a := 0) rfl (by decide) ?_
  refine r_iconst_ (a := 0) rfl (by decide) ?_
  obtain ⟨hb16, hk⟩ := hk
  refine r_callS0 [_, _, _, _, _, _, _] _ rfl kY_X12_word kT_X12_word rfl rfl (Nat.le_of_ble_eq_true rfl) (Nat.le_of_ble_eq_true rfl) (s_X12_word hb16) (fun r h q => ?_)
  obtain ⟨rfl, rfl⟩ := q
  simp only [Option.toList, List.cons_append, List.nil_append]
  refine w_last rfl (cc_67 _) (by unfold vp_in; decide) ?_
  refine r_aload_n rfl rfl ?_
  refine q_getfield rfl (cc_60 _) rfl ?_
  refine r_bipush_ (a := 15) rfl (by decide) ?_
  refine r_bipush_ (a := 104) rfl (by decide) ?_
  refine r_bipush_ (a := 111) rfl (by decide) ?_
  refine r_bipush_ (a := 117) rfl (by decide) ?_
  refine r_bipush_ (a := 114) rfl (by decide) ?_
  refine r_iconst_ (a := 0) rfl (by decide) ?_
  refine r_iconst_ (a := 0) rfl (by decide) ?_
  refine r_iconst_ (a := 0) rfl (by decide) ?_
  obtain ⟨hb17, hk⟩ := hk
  refine r_callS0 [_, _, _, _, _, _, _] _ rfl kY_X12_word kT_X12_word rfl rfl (Nat.le_of_ble_eq_true rfl) (Nat.le_of_ble_eq_true rfl) (s_X12_word hb17) (fun r h q => ?_)
  obtain ⟨rfl, rfl⟩ := q
  simp only [Option.toList, List.cons_append, List.nil_append]
  refine w_last rfl (cc_67 _) (by unfold vp_in; decide) ?_
  refine r_aload_n rfl rfl ?_
  refine q_getfield rfl (cc_60 _) rfl ?_
  refine r_bipush_ (a := 16) rfl (by decide) ?_
  refine r_bipush_ (a := 108) rfl (by decide) ?_
  refine r_bipush_ (a := 97) rfl (by decide) ?_
  refine r_bipush_ (a := 105) rfl (by decide) ?_
  refine r_bipush_ (a := 110) rfl (by decide) ?_
  refine r_iconst_ (a := 0) rfl (by decide) ?_
  refine r_iconst_ (a := 0) rfl (by decide) ?_
  refine r_iconst_ (a := 0) rfl (by decide) ?_
  obtain ⟨hb18, hk⟩ := hk
  refine r_callS0 [_, _, _, _, _, _, _] _ rfl kY_X12_word kT_X12_word rfl rfl (Nat.le_of_ble_eq_true rfl) (Nat.le_of_ble_eq_true rfl) (s_X12_word hb18) (fun r h q => ?_)
  obtain ⟨rfl, rfl⟩ := q
  simp only [Option.toList, List.cons_append, List.nil_append]
  refine w_last rfl (cc_67 _) (by unfold vp_in; decide) ?_
  refine r_aload_n rfl rfl ?_
  refine q_getfield rfl (cc_60 _) rfl ?_
  refine r_bipush_ (a := 17) rfl (by decide) ?_
  refine r_bipush_ (a := 104) rfl (by decide) ?_
  refine r_bipush_ (a := 97) rfl (by decide) ?_
  refine r_bipush_ (a := 116) rfl (by decide) ?_
  refine r_iconst_ (a := 0) rfl (by decide) ?_
  refine r_iconst_ (a := 0) rfl (by decide) ?_
  refine r_iconst_ (a := 0) rfl (by decide) ?_
  refine r_iconst_ (a := 0) rfl (by decide) ?_
  obtain ⟨hb19, hk⟩ := hk
  refine r_callS0 [_, _, _, _, _, _, _] _ rfl kY_X12_word kT_X12_word rfl rfl (Nat.le_of_ble_eq_true rfl) (Nat.le_of_ble_eq_true rfl) (s_X12_word hb19) (fun r h q => ?_)
  obtain ⟨rfl, rfl⟩ := q
  simp only [Option.toList, List.cons_append, List.nil_append]
  refine w_last rfl (cc_67 _) (by unfold vp_in; decide) ?_
  refine r_aload_n rfl rfl ?_
  refine q_getfield rfl (cc_60 _) rfl ?_
  refine r_bipush_ (a := 18) rfl (by decide) ?_
  refine r_bipush_ (a := 104) rfl (by decide) ?_
  refine r_bipush_ (a := 97) rfl (by decide) ?_
  refine r_bipush_ (a := 115) rfl (by decide) ?_
  refine r_iconst_ (a := 0) rfl (by decide) ?_
  refine r_iconst_ (a := 0) rfl (by decide) ?_
  refine r_iconst_ (a := 0) rfl (by decide) ?_
  refine r_iconst_ (a := 0) rfl (by decide) ?_
  obtain ⟨hb20, hk⟩ := hk
  refine r_callS0 [_, _, _, _, _, _, _] _ rfl kY_X12_word kT_X12_word rfl rfl (Nat.le_of_ble_eq_true rfl) (Nat.le_of_ble_eq_true rfl) (s_X12_word hb20) (fun r h q => ?_)
  obtain ⟨rfl, rfl⟩ := q
  simp only [Option.toList, List.cons_append, List.nil_append]
  refine w_last rfl (cc_67 _) (by unfold vp_in; decide) ?_
  refine r_aload_n rfl rfl ?_
  refine q_getfield rfl (cc_60 _) rfl ?_
  refine r_bipush_ (a := 19) rfl (by decide) ?_
  refine r_bipush_ (a := 104) rfl (by decide) ?_
  refine r_bipush_ (a := 101) rfl (by decide) ?_
  refine r_bipush_ (a := 114) rfl (by decide) ?_
  refine r_bipush_ (a := 101) rfl (by decide) ?_
  refine r_iconst_ (a := 0) rfl (by decide) ?_
  refine r_iconst_ (a := 0) rfl (by decide) ?_
  refine r_iconst_ (a := 0) rfl (by decide) ?_
  obtain ⟨hb21, hk⟩ := hk
  refine r_callS0 [_, _, _, _, _, _, _] _ rfl kY_X12_word kT_X12_word rfl rfl (Nat.le_of_ble_eq_true rfl) (Nat.le_of_ble_eq_true rfl) (s_X12_word hb21) (fun r h q => ?_)
  obtain ⟨rfl, rfl⟩ := q
  simp only [Option.toList, List.cons_append, List.nil_append]
  refine w_last rfl (cc_67 _) (by unfold vp_in; decide) ?_
  refine r_aload_n rfl rfl ?_
  refine q_getfield rfl (cc_60 _) rfl ?_
  refine r_bipush_ (a := 20) rfl (by decide) ?_
  refine r_bipush_ (a := 119) rfl (by decide) ?_
  refine r_bipush_ (a := 104) rfl (by decide) ?_
  refine r_bipush_ (a := 105) rfl (by decide) ?_
  refine r_bipush_ (a := 99) rfl (by decide) ?_
  refine r_bipush_ (a := 104) rfl (by decide) ?_
  refine r_iconst_ (a := 0) rfl (by decide) ?_
  refine r_iconst_ (a := 0) rfl (by decide) ?_
  obtain ⟨hb22, hk⟩ := hk
  refine r_callS0 [_, _, _, _, _, _, _] _ rfl kY_X12_word kT_X12_word rfl rfl (Nat.le_of_ble_eq_true rfl) (Nat.le_of_ble_eq_true rfl) (s_X12_word hb22) (fun r h q => ?_)
  obtain ⟨rfl, rfl⟩ := q
  simp only [Option.toList, List.cons_append, List.nil_append]
  refine w_last rfl (cc_67 _) (by unfold vp_in; decide) ?_
  refine r_aload_n rfl rfl ?_
  obtain ⟨hb23, hk⟩ := hk
  refine q_callV0 [] _ rfl kY_X12_begins kT_X12_begins rfl rfl (Nat.le_of_ble_eq_true rfl) (Nat.le_of_ble_eq_true rfl) (cc_60 _) (s_X12_begins hb23) (fun r h q => ?_)
  obtain ⟨rfl, rfl⟩ := q
  simp only [Option.toList, List.cons_append, List.nil_append]
  refine r_aload_n rfl rfl ?_
  obtain ⟨hb24, hk⟩ := hk
  refine q_callV0 [] _ rfl kY_X12_keepsRow kT_X12_keepsRow rfl rfl (Nat.le_of_ble_eq_true rfl) (Nat.le_of_ble_eq_true rfl) (cc_60 _) (s_X12_keepsRow hb24) (fun r h q => ?_)
  obtain ⟨rfl, rfl⟩ := q
  simp only [Option.toList, List.cons_append, List.nil_append]
  refine r_ret rfl rfl ?_
  first | with_reducible exact fin_v he | exact fin_v he

