section
def P_181_13 : List SI := [(547, .iastore, 548, [], []), (548, .dup, 549, [], []), (549, .bipush 27, 551, [], []), (551, .bipush 32, 553, [], []), (553, .iastore, 554, [], []), (554, .dup, 555, [], []), (555, .bipush 28, 557, [], []), (557, .bipush 32, 559, [], []), (559, .iastore, 560, [], []), (560, .dup, 561, [], []), (561, .bipush 29, 563, [], []), (563, .bipush 32, 565, [], []), (565, .iastore, 566, [], []), (566, .dup, 567, [], []), (567, .bipush 30, 569, [], []), (569, .bipush 32, 571, [], [])]
set_option maxRecDepth 100000 in
theorem rows_181_13 : ∀ z ∈ P_181_13, rowB mtab q_181.1 q_181.2.1 z = true := List.all_eq_true.mp (by decide +kernel)
def P_181_14 : List SI := [(571, .iastore, 572, [], []), (572, .dup, 573, [], []), (573, .bipush 31, 575, [], []), (575, .bipush 32, 577, [], []), (577, .iastore, 578, [], []), (578, .dup, 579, [], []), (579, .bipush 32, 581, [], []), (581, .bipush 98, 583, [], []), (583, .iastore, 584, [], []), (584, .dup, 585, [], []), (585, .bipush 33, 587, [], []), (587, .bipush 32, 589, [], []), (589, .iastore, 590, [], []), (590, .dup, 591, [], []), (591, .bipush 34, 593, [], []), (593, .bipush 32, 595, [], [])]
set_option maxRecDepth 100000 in
theorem rows_181_14 : ∀ z ∈ P_181_14, rowB mtab q_181.1 q_181.2.1 z = true := List.all_eq_true.mp (by decide +kernel)
def P_181_15 : List SI := [(595, .iastore, 596, [], []), (596, .dup, 597, [], []), (597, .bipush 35, 599, [], []), (599, .bipush 32, 601, [], []), (601, .iastore, 602, [], []), (602, .dup, 603, [], []), (603, .bipush 36, 605, [], []), (605, .bipush 32, 607, [], []), (607, .iastore, 608, [], []), (608, .dup, 609, [], []), (609, .bipush 37, 611, [], []), (611, .bipush 32, 613, [], []), (613, .iastore, 614, [], []), (614, .dup, 615, [], []), (615, .bipush 38, 617, [], [])]
set_option maxRecDepth 100000 in
theorem rows_181_15 : ∀ z ∈ P_181_15, rowB mtab q_181.1 q_181.2.1 z = true := List.all_eq_true.mp (by decide +kernel)
def P_181_16 : List SI := [(617, .bipush 32, 619, [], []), (619, .iastore, 620, [], []), (620, .dup, 621, [], []), (621, .bipush 39, 623, [], []), (623, .bipush 32, 625, [], []), (625, .iastore, 626, [], []), (626, .dup, 627, [], []), (627, .bipush 40, 629, [], []), (629, .bipush 99, 631, [], []), (631, .iastore, 632, [], []), (632, .dup, 633, [], []), (633, .bipush 41, 635, [], []), (635, .bipush 32, 637, [], []), (637, .iastore, 638, [], []), (638, .dup, 639, [], [])]
set_option maxRecDepth 100000 in
theorem rows_181_16 : ∀ z ∈ P_181_16, rowB mtab q_181.1 q_181.2.1 z = true := List.all_eq_true.mp (by decide +kernel)
def P_181_17 : List SI := [(639, .bipush 42, 641, [], []), (641, .bipush 32, 643, [], []), (643, .iastore, 644, [], []), (644, .dup, 645, [], []), (645, .bipush 43, 647, [], []), (647, .bipush 32, 649, [], []), (649, .iastore, 650, [], []), (650, .dup, 651, [], []), (651, .bipush 44, 653, [], []), (653, .bipush 32, 655, [], []), (655, .iastore, 656, [], []), (656, .dup, 657, [], []), (657, .bipush 45, 659, [], []), (659, .bipush 32, 661, [], []), (661, .iastore, 662, [], [])]
set_option maxRecDepth 100000 in
theorem rows_181_17 : ∀ z ∈ P_181_17, rowB mtab q_181.1 q_181.2.1 z = true := List.all_eq_true.mp (by decide +kernel)
def P_181_18 : List SI := [(662, .dup, 663, [], []), (663, .bipush 46, 665, [], []), (665, .bipush 32, 667, [], []), (667, .iastore, 668, [], []), (668, .dup, 669, [], []), (669, .bipush 47, 671, [], []), (671, .bipush 32, 673, [], []), (673, .iastore, 674, [], []), (674, .dup, 675, [], []), (675, .bipush 48, 677, [], []), (677, .bipush 100, 679, [], []), (679, .iastore, 680, [], []), (680, .dup, 681, [], []), (681, .bipush 49, 683, [], [])]
set_option maxRecDepth 100000 in
theorem rows_181_18 : ∀ z ∈ P_181_18, rowB mtab q_181.1 q_181.2.1 z = true := List.all_eq_true.mp (by decide +kernel)
def P_181_19 : List SI := [(683, .bipush 32, 685, [], []), (685, .iastore, 686, [], []), (686, .dup, 687, [], []), (687, .bipush 50, 689, [], []), (689, .bipush 32, 691, [], []), (691, .iastore, 692, [], []), (692, .dup, 693, [], []), (693, .bipush 51, 695, [], []), (695, .bipush 32, 697, [], []), (697, .iastore, 698, [], []), (698, .dup, 699, [], []), (699, .bipush 52, 701, [], []), (701, .bipush 32, 703, [], []), (703, .iastore, 704, [], [])]
set_option maxRecDepth 100000 in
theorem rows_181_19 : ∀ z ∈ P_181_19, rowB mtab q_181.1 q_181.2.1 z = true := List.all_eq_true.mp (by decide +kernel)
def P_181_20 : List SI := [(704, .dup, 705, [], []), (705, .bipush 53, 707, [], []), (707, .bipush 32, 709, [], []), (709, .iastore, 710, [], []), (710, .dup, 711, [], []), (711, .bipush 54, 713, [], []), (713, .bipush 32, 715, [], []), (715, .iastore, 716, [], []), (716, .dup, 717, [], []), (717, .bipush 55, 719, [], []), (719, .bipush 32, 721, [], []), (721, .iastore, 722, [], []), (722, .dup, 723, [], [])]
set_option maxRecDepth 100000 in
theorem rows_181_20 : ∀ z ∈ P_181_20, rowB mtab q_181.1 q_181.2.1 z = true := List.all_eq_true.mp (by decide +kernel)
def P_181_21 : List SI := [(723, .bipush 56, 725, [], []), (725, .bipush 102, 727, [], []), (727, .iastore, 728, [], []), (728, .dup, 729, [], []), (729, .bipush 57, 731, [], []), (731, .bipush 97, 733, [], []), (733, .iastore, 734, [], []), (734, .dup, 735, [], []), (735, .bipush 58, 737, [], []), (737, .bipush 114, 739, [], []), (739, .iastore, 740, [], []), (740, .dup, 741, [], []), (741, .bipush 59, 743, [], [])]
set_option maxRecDepth 100000 in
theorem rows_181_21 : ∀ z ∈ P_181_21, rowB mtab q_181.1 q_181.2.1 z = true := List.all_eq_true.mp (by decide +kernel)
def P_181_22 : List SI := [(743, .bipush 32, 745, [], []), (745, .iastore, 746, [], []), (746, .dup, 747, [], []), (747, .bipush 60, 749, [], []), (749, .bipush 32, 751, [], []), (751, .iastore, 752, [], []), (752, .dup, 753, [], []), (753, .bipush 61, 755, [], []), (755, .bipush 32, 757, [], []), (757, .iastore, 758, [], []), (758, .dup, 759, [], []), (759, .bipush 62, 761, [], []), (761, .bipush 32, 763, [], [])]
set_option maxRecDepth 100000 in
theorem rows_181_22 : ∀ z ∈ P_181_22, rowB mtab q_181.1 q_181.2.1 z = true := List.all_eq_true.mp (by decide +kernel)
def P_181_23 : List SI := [(763, .iastore, 764, [], []), (764, .dup, 765, [], []), (765, .bipush 63, 767, [], []), (767, .bipush 32, 769, [], []), (769, .iastore, 770, [], []), (770, .dup, 771, [], []), (771, .bipush 64, 773, [], []), (773, .bipush 119, 775, [], []), (775, .iastore, 776, [], []), (776, .dup, 777, [], []), (777, .bipush 65, 779, [], []), (779, .bipush 111, 781, [], []), (781, .iastore, 782, [], [])]
set_option maxRecDepth 100000 in
theorem rows_181_23 : ∀ z ∈ P_181_23, rowB mtab q_181.1 q_181.2.1 z = true := List.all_eq_true.mp (by decide +kernel)
def P_181_24 : List SI := [(782, .dup, 783, [], []), (783, .bipush 66, 785, [], []), (785, .bipush 114, 787, [], []), (787, .iastore, 788, [], []), (788, .dup, 789, [], []), (789, .bipush 67, 791, [], []), (791, .bipush 108, 793, [], []), (793, .iastore, 794, [], []), (794, .dup, 795, [], []), (795, .bipush 68, 797, [], []), (797, .bipush 100, 799, [], []), (799, .iastore, 800, [], [])]
set_option maxRecDepth 100000 in
theorem rows_181_24 : ∀ z ∈ P_181_24, rowB mtab q_181.1 q_181.2.1 z = true := List.all_eq_true.mp (by decide +kernel)
def P_181_25 : List SI := [(800, .dup, 801, [], []), (801, .bipush 69, 803, [], []), (803, .bipush 115, 805, [], []), (805, .iastore, 806, [], []), (806, .dup, 807, [], []), (807, .bipush 70, 809, [], []), (809, .bipush 32, 811, [], []), (811, .iastore, 812, [], []), (812, .dup, 813, [], []), (813, .bipush 71, 815, [], []), (815, .bipush 32, 817, [], []), (817, .iastore, 818, [], [])]
set_option maxRecDepth 100000 in
theorem rows_181_25 : ∀ z ∈ P_181_25, rowB mtab q_181.1 q_181.2.1 z = true := List.all_eq_true.mp (by decide +kernel)
def P_181_26 : List SI := [(818, .dup, 819, [], []), (819, .bipush 72, 821, [], []), (821, .bipush 111, 823, [], []), (823, .iastore, 824, [], []), (824, .dup, 825, [], []), (825, .bipush 73, 827, [], []), (827, .bipush 114, 829, [], []), (829, .iastore, 830, [], []), (830, .dup, 831, [], []), (831, .bipush 74, 833, [], []), (833, .bipush 32, 835, [], []), (835, .iastore, 836, [], [])]
set_option maxRecDepth 100000 in
theorem rows_181_26 : ∀ z ∈ P_181_26, rowB mtab q_181.1 q_181.2.1 z = true := List.all_eq_true.mp (by decide +kernel)
end
