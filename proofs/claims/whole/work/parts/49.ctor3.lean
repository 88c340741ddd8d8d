abbrev TX6_init_0 : List fEn := [(4, 5, [(3, 0), (3, 0), (3, 0), (3, 0), (3, 0), (3, 0), (3, 0), (3, 0), (3, 0), (3, 0), (3, 0), (3, 0), (3, 0), (3, 0), (3, 0), (3, 0), (3, 0), (3, 0), (3, 0), (3, 0), (0, 0), (0, 0)]), (0, 4, [])]
abbrev TX6_init_1 : List fEn := [(4, 5, [(2, 1), (3, 0), (3, 0), (3, 0), (3, 0), (3, 0), (3, 0), (3, 0), (3, 0), (3, 0), (3, 0), (3, 0), (3, 0), (3, 0), (3, 0), (3, 0), (3, 0), (3, 0), (3, 0), (3, 0), (0, 0), (0, 0)]), (0, 4, [])]
abbrev TX6_init_2 : List fEn := [(4, 5, [(2, 1), (3, 0), (3, 0), (3, 0), (3, 0), (3, 0), (3, 0), (3, 0), (3, 0), (3, 0), (3, 0), (3, 0), (3, 0), (3, 0), (3, 0), (3, 0), (3, 0), (3, 0), (3, 0), (3, 0), (0, 0), (0, 0)]), (0, 4, []), (2, 96, [])]
abbrev TX6_init_3 : List fEn := [(4, 5, [(2, 1), (2, 2), (3, 0), (3, 0), (3, 0), (3, 0), (3, 0), (3, 0), (3, 0), (3, 0), (3, 0), (3, 0), (3, 0), (3, 0), (3, 0), (3, 0), (3, 0), (3, 0), (3, 0), (3, 0), (0, 0), (0, 0)]), (0, 4, []), (2, 96, [])]
abbrev TX6_init_4 : List fEn := [(4, 5, [(2, 1), (2, 2), (3, 0), (3, 0), (3, 0), (3, 0), (3, 0), (3, 0), (3, 0), (3, 0), (3, 0), (3, 0), (3, 0), (3, 0), (3, 0), (3, 0), (3, 0), (3, 0), (3, 0), (3, 0), (0, 0), (0, 0)]), (0, 4, []), (2, 96, []), (1, 96, [])]
abbrev TX6_init_5 : List fEn := [(4, 5, [(2, 1), (2, 2), (2, 3), (3, 0), (3, 0), (3, 0), (3, 0), (3, 0), (3, 0), (3, 0), (3, 0), (3, 0), (3, 0), (3, 0), (3, 0), (3, 0), (3, 0), (3, 0), (3, 0), (3, 0), (0, 0), (0, 0)]), (0, 4, []), (2, 96, []), (1, 96, [])]
abbrev TX6_init_6 : List fEn := [(4, 5, [(2, 1), (2, 2), (2, 3), (3, 0), (3, 0), (3, 0), (3, 0), (3, 0), (3, 0), (3, 0), (3, 0), (3, 0), (3, 0), (3, 0), (3, 0), (3, 0), (3, 0), (3, 0), (3, 0), (3, 0), (0, 0), (0, 0)]), (0, 4, []), (2, 96, []), (1, 96, []), (0, 96, [])]
abbrev TX6_init_7 : List fEn := [(4, 5, [(2, 1), (2, 2), (2, 3), (2, 4), (3, 0), (3, 0), (3, 0), (3, 0), (3, 0), (3, 0), (3, 0), (3, 0), (3, 0), (3, 0), (3, 0), (3, 0), (3, 0), (3, 0), (3, 0), (3, 0), (0, 0), (0, 0)]), (0, 4, []), (2, 96, []), (1, 96, []), (0, 96, [])]
abbrev TX6_init_8 : List fEn := [(4, 5, [(2, 1), (2, 2), (2, 3), (2, 4), (3, 0), (3, 0), (3, 0), (3, 0), (3, 0), (3, 0), (3, 0), (3, 0), (3, 0), (3, 0), (3, 0), (3, 0), (3, 0), (3, 0), (3, 0), (3, 0), (0, 0), (0, 0)]), (0, 4, []), (2, 96, []), (1, 96, []), (0, 96, []), (0, 96, [])]
abbrev TX6_init_9 : List fEn := [(4, 5, [(2, 1), (2, 2), (2, 3), (2, 4), (2, 5), (3, 0), (3, 0), (3, 0), (3, 0), (3, 0), (3, 0), (3, 0), (3, 0), (3, 0), (3, 0), (3, 0), (3, 0), (3, 0), (3, 0), (3, 0), (0, 0), (0, 0)]), (0, 4, []), (2, 96, []), (1, 96, []), (0, 96, []), (0, 96, [])]
abbrev TX6_init_10 : List fEn := [(4, 5, [(2, 1), (2, 2), (2, 3), (2, 4), (2, 5), (3, 0), (3, 0), (3, 0), (3, 0), (3, 0), (3, 0), (3, 0), (3, 0), (3, 0), (3, 0), (3, 0), (3, 0), (3, 0), (3, 0), (3, 0), (0, 0), (0, 0)]), (0, 4, []), (2, 96, []), (1, 96, []), (0, 96, []), (0, 96, []), (0, 4, [])]
abbrev TX6_init_11 : List fEn := [(4, 5, [(2, 1), (2, 2), (2, 3), (2, 4), (2, 5), (2, 6), (3, 0), (3, 0), (3, 0), (3, 0), (3, 0), (3, 0), (3, 0), (3, 0), (3, 0), (3, 0), (3, 0), (3, 0), (3, 0), (3, 0), (0, 0), (0, 0)]), (0, 4, []), (2, 96, []), (1, 96, []), (0, 96, []), (0, 96, []), (0, 4, [])]
abbrev TX6_init_12 : List fEn := [(4, 5, [(2, 1), (2, 2), (2, 3), (2, 4), (2, 5), (2, 6), (3, 0), (3, 0), (3, 0), (3, 0), (3, 0), (3, 0), (3, 0), (3, 0), (3, 0), (3, 0), (3, 0), (3, 0), (3, 0), (3, 0), (0, 0), (0, 0)]), (0, 4, []), (2, 96, []), (1, 96, []), (0, 96, []), (0, 96, []), (0, 4, []), (0, 24, [])]
abbrev TX6_init_13 : List fEn := [(4, 5, [(2, 1), (2, 2), (2, 3), (2, 4), (2, 5), (2, 6), (2, 7), (3, 0), (3, 0), (3, 0), (3, 0), (3, 0), (3, 0), (3, 0), (3, 0), (3, 0), (3, 0), (3, 0), (3, 0), (3, 0), (0, 0), (0, 0)]), (0, 4, []), (2, 96, []), (1, 96, []), (0, 96, []), (0, 96, []), (0, 4, []), (0, 24, [])]
abbrev TX6_init_14 : List fEn := [(4, 5, [(2, 1), (2, 2), (2, 3), (2, 4), (2, 5), (2, 6), (2, 7), (3, 0), (3, 0), (3, 0), (3, 0), (3, 0), (3, 0), (3, 0), (3, 0), (3, 0), (3, 0), (3, 0), (3, 0), (3, 0), (0, 0), (0, 0)]), (0, 4, []), (2, 96, []), (1, 96, []), (0, 96, []), (0, 96, []), (0, 4, []), (0, 24, []), (0, 24, [])]
abbrev TX6_init_15 : List fEn := [(4, 5, [(2, 1), (2, 2), (2, 3), (2, 4), (2, 5), (2, 6), (2, 7), (2, 8), (3, 0), (3, 0), (3, 0), (3, 0), (3, 0), (3, 0), (3, 0), (3, 0), (3, 0), (3, 0), (3, 0), (3, 0), (0, 0), (0, 0)]), (0, 4, []), (2, 96, []), (1, 96, []), (0, 96, []), (0, 96, []), (0, 4, []), (0, 24, []), (0, 24, [])]
abbrev TX6_init_16 : List fEn := [(4, 5, [(2, 1), (2, 2), (2, 3), (2, 4), (2, 5), (2, 6), (2, 7), (2, 8), (3, 0), (3, 0), (3, 0), (3, 0), (3, 0), (3, 0), (3, 0), (3, 0), (3, 0), (3, 0), (3, 0), (3, 0), (0, 0), (0, 0)]), (0, 4, []), (2, 96, []), (1, 96, []), (0, 96, []), (0, 96, []), (0, 4, []), (0, 24, []), (0, 24, []), (0, 4, [])]
abbrev TX6_init_17 : List fEn := [(4, 5, [(2, 1), (2, 2), (2, 3), (2, 4), (2, 5), (2, 6), (2, 7), (2, 8), (2, 9), (3, 0), (3, 0), (3, 0), (3, 0), (3, 0), (3, 0), (3, 0), (3, 0), (3, 0), (3, 0), (3, 0), (0, 0), (0, 0)]), (0, 4, []), (2, 96, []), (1, 96, []), (0, 96, []), (0, 96, []), (0, 4, []), (0, 24, []), (0, 24, []), (0, 4, [])]
abbrev TX6_init_18 : List fEn := [(4, 5, [(2, 1), (2, 2), (2, 3), (2, 4), (2, 5), (2, 6), (2, 7), (2, 8), (2, 9), (3, 0), (3, 0), (3, 0), (3, 0), (3, 0), (3, 0), (3, 0), (3, 0), (3, 0), (3, 0), (3, 0), (0, 0), (0, 0)]), (0, 4, []), (2, 96, []), (1, 96, []), (0, 96, []), (0, 96, []), (0, 4, []), (0, 24, []), (0, 24, []), (0, 4, []), (0, 4, [])]
abbrev TX6_init_19 : List fEn := [(4, 5, [(2, 1), (2, 2), (2, 3), (2, 4), (2, 5), (2, 6), (2, 7), (2, 8), (2, 9), (2, 10), (3, 0), (3, 0), (3, 0), (3, 0), (3, 0), (3, 0), (3, 0), (3, 0), (3, 0), (3, 0), (0, 0), (0, 0)]), (0, 4, []), (2, 96, []), (1, 96, []), (0, 96, []), (0, 96, []), (0, 4, []), (0, 24, []), (0, 24, []), (0, 4, []), (0, 4, [])]
abbrev TX6_init_20 : List fEn := [(4, 5, [(2, 1), (2, 2), (2, 3), (2, 4), (2, 5), (2, 6), (2, 7), (2, 8), (2, 9), (2, 10), (3, 0), (3, 0), (3, 0), (3, 0), (3, 0), (3, 0), (3, 0), (3, 0), (3, 0), (3, 0), (0, 0), (0, 0)]), (0, 4, []), (2, 96, []), (1, 96, []), (0, 96, []), (0, 96, []), (0, 4, []), (0, 24, []), (0, 24, []), (0, 4, []), (0, 4, []), (0, 5, [])]
abbrev TX6_init_21 : List fEn := [(4, 5, [(2, 1), (2, 2), (2, 3), (2, 4), (2, 5), (2, 6), (2, 7), (2, 8), (2, 9), (2, 10), (2, 11), (3, 0), (3, 0), (3, 0), (3, 0), (3, 0), (3, 0), (3, 0), (3, 0), (3, 0), (0, 0), (0, 0)]), (0, 4, []), (2, 96, []), (1, 96, []), (0, 96, []), (0, 96, []), (0, 4, []), (0, 24, []), (0, 24, []), (0, 4, []), (0, 4, []), (0, 5, [])]
abbrev TX6_init_22 : List fEn := [(4, 5, [(2, 1), (2, 2), (2, 3), (2, 4), (2, 5), (2, 6), (2, 7), (2, 8), (2, 9), (2, 10), (2, 11), (3, 0), (3, 0), (3, 0), (3, 0), (3, 0), (3, 0), (3, 0), (3, 0), (3, 0), (0, 0), (0, 0)]), (0, 4, []), (2, 96, []), (1, 96, []), (0, 96, []), (0, 96, []), (0, 4, []), (0, 24, []), (0, 24, []), (0, 4, []), (0, 4, []), (0, 5, []), (0, 20, [])]
abbrev TX6_init_23 : List fEn := [(4, 5, [(2, 1), (2, 2), (2, 3), (2, 4), (2, 5), (2, 6), (2, 7), (2, 8), (2, 9), (2, 10), (2, 11), (2, 12), (3, 0), (3, 0), (3, 0), (3, 0), (3, 0), (3, 0), (3, 0), (3, 0), (0, 0), (0, 0)]), (0, 4, []), (2, 96, []), (1, 96, []), (0, 96, []), (0, 96, []), (0, 4, []), (0, 24, []), (0, 24, []), (0, 4, []), (0, 4, []), (0, 5, []), (0, 20, [])]
abbrev TX6_init_24 : List fEn := [(4, 5, [(2, 1), (2, 2), (2, 3), (2, 4), (2, 5), (2, 6), (2, 7), (2, 8), (2, 9), (2, 10), (2, 11), (2, 12), (3, 0), (3, 0), (3, 0), (3, 0), (3, 0), (3, 0), (3, 0), (3, 0), (0, 0), (0, 0)]), (0, 4, []), (2, 96, []), (1, 96, []), (0, 96, []), (0, 96, []), (0, 4, []), (0, 24, []), (0, 24, []), (0, 4, []), (0, 4, []), (0, 5, []), (0, 20, []), (0, 12, [])]
abbrev TX6_init_25 : List fEn := [(4, 5, [(2, 1), (2, 2), (2, 3), (2, 4), (2, 5), (2, 6), (2, 7), (2, 8), (2, 9), (2, 10), (2, 11), (2, 12), (2, 13), (3, 0), (3, 0), (3, 0), (3, 0), (3, 0), (3, 0), (3, 0), (0, 0), (0, 0)]), (0, 4, []), (2, 96, []), (1, 96, []), (0, 96, []), (0, 96, []), (0, 4, []), (0, 24, []), (0, 24, []), (0, 4, []), (0, 4, []), (0, 5, []), (0, 20, []), (0, 12, [])]
abbrev TX6_init_26 : List fEn := [(4, 5, [(2, 1), (2, 2), (2, 3), (2, 4), (2, 5), (2, 6), (2, 7), (2, 8), (2, 9), (2, 10), (2, 11), (2, 12), (2, 13), (3, 0), (3, 0), (3, 0), (3, 0), (3, 0), (3, 0), (3, 0), (0, 0), (0, 0)]), (0, 4, []), (2, 96, []), (1, 96, []), (0, 96, []), (0, 96, []), (0, 4, []), (0, 24, []), (0, 24, []), (0, 4, []), (0, 4, []), (0, 5, []), (0, 20, []), (0, 12, []), (1, 12, [])]
abbrev TX6_init_27 : List fEn := [(4, 5, [(2, 1), (2, 2), (2, 3), (2, 4), (2, 5), (2, 6), (2, 7), (2, 8), (2, 9), (2, 10), (2, 11), (2, 12), (2, 13), (2, 14), (3, 0), (3, 0), (3, 0), (3, 0), (3, 0), (3, 0), (0, 0), (0, 0)]), (0, 4, []), (2, 96, []), (1, 96, []), (0, 96, []), (0, 96, []), (0, 4, []), (0, 24, []), (0, 24, []), (0, 4, []), (0, 4, []), (0, 5, []), (0, 20, []), (0, 12, []), (1, 12, [])]
abbrev TX6_init_28 : List fEn := [(4, 5, [(2, 1), (2, 2), (2, 3), (2, 4), (2, 5), (2, 6), (2, 7), (2, 8), (2, 9), (2, 10), (2, 11), (2, 12), (2, 13), (2, 14), (3, 0), (3, 0), (3, 0), (3, 0), (3, 0), (3, 0), (0, 0), (0, 0)]), (0, 4, []), (2, 96, []), (1, 96, []), (0, 96, []), (0, 96, []), (0, 4, []), (0, 24, []), (0, 24, []), (0, 4, []), (0, 4, []), (0, 5, []), (0, 20, []), (0, 12, []), (1, 12, []), (2, 12, [])]
abbrev TX6_init_29 : List fEn := [(4, 5, [(2, 1), (2, 2), (2, 3), (2, 4), (2, 5), (2, 6), (2, 7), (2, 8), (2, 9), (2, 10), (2, 11), (2, 12), (2, 13), (2, 14), (2, 15), (3, 0), (3, 0), (3, 0), (3, 0), (3, 0), (0, 0), (0, 0)]), (0, 4, []), (2, 96, []), (1, 96, []), (0, 96, []), (0, 96, []), (0, 4, []), (0, 24, []), (0, 24, []), (0, 4, []), (0, 4, []), (0, 5, []), (0, 20, []), (0, 12, []), (1, 12, []), (2, 12, [])]
abbrev TX6_init_30 : List fEn := [(4, 5, [(2, 1), (2, 2), (2, 3), (2, 4), (2, 5), (2, 6), (2, 7), (2, 8), (2, 9), (2, 10), (2, 11), (2, 12), (2, 13), (2, 14), (2, 15), (3, 0), (3, 0), (3, 0), (3, 0), (3, 0), (0, 0), (0, 0)]), (0, 4, []), (2, 96, []), (1, 96, []), (0, 96, []), (0, 96, []), (0, 4, []), (0, 24, []), (0, 24, []), (0, 4, []), (0, 4, []), (0, 5, []), (0, 20, []), (0, 12, []), (1, 12, []), (2, 12, []), (0, 12, [])]
abbrev TX6_init_31 : List fEn := [(4, 5, [(2, 1), (2, 2), (2, 3), (2, 4), (2, 5), (2, 6), (2, 7), (2, 8), (2, 9), (2, 10), (2, 11), (2, 12), (2, 13), (2, 14), (2, 15), (2, 16), (3, 0), (3, 0), (3, 0), (3, 0), (0, 0), (0, 0)]), (0, 4, []), (2, 96, []), (1, 96, []), (0, 96, []), (0, 96, []), (0, 4, []), (0, 24, []), (0, 24, []), (0, 4, []), (0, 4, []), (0, 5, []), (0, 20, []), (0, 12, []), (1, 12, []), (2, 12, []), (0, 12, [])]
abbrev TX6_init_32 : List fEn := [(4, 5, [(2, 1), (2, 2), (2, 3), (2, 4), (2, 5), (2, 6), (2, 7), (2, 8), (2, 9), (2, 10), (2, 11), (2, 12), (2, 13), (2, 14), (2, 15), (2, 16), (3, 0), (3, 0), (3, 0), (3, 0), (0, 0), (0, 0)]), (0, 4, []), (2, 96, []), (1, 96, []), (0, 96, []), (0, 96, []), (0, 4, []), (0, 24, []), (0, 24, []), (0, 4, []), (0, 4, []), (0, 5, []), (0, 20, []), (0, 12, []), (1, 12, []), (2, 12, []), (0, 12, []), (0, 169, [])]
abbrev TX6_init_33 : List fEn := [(4, 5, [(2, 1), (2, 2), (2, 3), (2, 4), (2, 5), (2, 6), (2, 7), (2, 8), (2, 9), (2, 10), (2, 11), (2, 12), (2, 13), (2, 14), (2, 15), (2, 16), (2, 17), (3, 0), (3, 0), (3, 0), (0, 0), (0, 0)]), (0, 4, []), (2, 96, []), (1, 96, []), (0, 96, []), (0, 96, []), (0, 4, []), (0, 24, []), (0, 24, []), (0, 4, []), (0, 4, []), (0, 5, []), (0, 20, []), (0, 12, []), (1, 12, []), (2, 12, []), (0, 12, []), (0, 169, [])]
abbrev TX6_init_34 : List fEn := [(4, 5, [(2, 1), (2, 2), (2, 3), (2, 4), (2, 5), (2, 6), (2, 7), (2, 8), (2, 9), (2, 10), (2, 11), (2, 12), (2, 13), (2, 14), (2, 15), (2, 16), (2, 17), (3, 0), (3, 0), (3, 0), (0, 0), (0, 0)]), (0, 4, []), (2, 96, []), (1, 96, []), (0, 96, []), (0, 96, []), (0, 4, []), (0, 24, []), (0, 24, []), (0, 4, []), (0, 4, []), (0, 5, []), (0, 20, []), (0, 12, []), (1, 12, []), (2, 12, []), (0, 12, []), (0, 169, []), (0, 13, [])]
abbrev TX6_init_35 : List fEn := [(4, 5, [(2, 1), (2, 2), (2, 3), (2, 4), (2, 5), (2, 6), (2, 7), (2, 8), (2, 9), (2, 10), (2, 11), (2, 12), (2, 13), (2, 14), (2, 15), (2, 16), (2, 17), (2, 18), (3, 0), (3, 0), (0, 0), (0, 0)]), (0, 4, []), (2, 96, []), (1, 96, []), (0, 96, []), (0, 96, []), (0, 4, []), (0, 24, []), (0, 24, []), (0, 4, []), (0, 4, []), (0, 5, []), (0, 20, []), (0, 12, []), (1, 12, []), (2, 12, []), (0, 12, []), (0, 169, []), (0, 13, [])]
abbrev TX6_init_36 : List fEn := [(4, 5, [(2, 1), (2, 2), (2, 3), (2, 4), (2, 5), (2, 6), (2, 7), (2, 8), (2, 9), (2, 10), (2, 11), (2, 12), (2, 13), (2, 14), (2, 15), (2, 16), (2, 17), (2, 18), (3, 0), (3, 0), (0, 0), (0, 0)]), (0, 4, []), (2, 96, []), (1, 96, []), (0, 96, []), (0, 96, []), (0, 4, []), (0, 24, []), (0, 24, []), (0, 4, []), (0, 4, []), (0, 5, []), (0, 20, []), (0, 12, []), (1, 12, []), (2, 12, []), (0, 12, []), (0, 169, []), (0, 13, []), (0, 13, [])]
abbrev TX6_init_37 : List fEn := [(4, 5, [(2, 1), (2, 2), (2, 3), (2, 4), (2, 5), (2, 6), (2, 7), (2, 8), (2, 9), (2, 10), (2, 11), (2, 12), (2, 13), (2, 14), (2, 15), (2, 16), (2, 17), (2, 18), (2, 19), (3, 0), (0, 0), (0, 0)]), (0, 4, []), (2, 96, []), (1, 96, []), (0, 96, []), (0, 96, []), (0, 4, []), (0, 24, []), (0, 24, []), (0, 4, []), (0, 4, []), (0, 5, []), (0, 20, []), (0, 12, []), (1, 12, []), (2, 12, []), (0, 12, []), (0, 169, []), (0, 13, []), (0, 13, [])]
abbrev TX6_init_38 : List fEn := [(4, 5, [(2, 1), (2, 2), (2, 3), (2, 4), (2, 5), (2, 6), (2, 7), (2, 8), (2, 9), (2, 10), (2, 11), (2, 12), (2, 13), (2, 14), (2, 15), (2, 16), (2, 17), (2, 18), (2, 19), (3, 0), (0, 0), (0, 0)]), (0, 4, []), (2, 96, []), (1, 96, []), (0, 96, []), (0, 96, []), (0, 4, []), (0, 24, []), (0, 24, []), (0, 4, []), (0, 4, []), (0, 5, []), (0, 20, []), (0, 12, []), (1, 12, []), (2, 12, []), (0, 12, []), (0, 169, []), (0, 13, []), (0, 13, []), (0, 64, [])]
abbrev TX6_init_39 : List fEn := [(4, 5, [(2, 1), (2, 2), (2, 3), (2, 4), (2, 5), (2, 6), (2, 7), (2, 8), (2, 9), (2, 10), (2, 11), (2, 12), (2, 13), (2, 14), (2, 15), (2, 16), (2, 17), (2, 18), (2, 19), (2, 20), (0, 0), (0, 0)]), (0, 4, []), (2, 96, []), (1, 96, []), (0, 96, []), (0, 96, []), (0, 4, []), (0, 24, []), (0, 24, []), (0, 4, []), (0, 4, []), (0, 5, []), (0, 20, []), (0, 12, []), (1, 12, []), (2, 12, []), (0, 12, []), (0, 169, []), (0, 13, []), (0, 13, []), (0, 64, [])]
abbrev TX6_init_40 : List fEn := [(4, 5, [(2, 1), (2, 2), (2, 3), (2, 4), (2, 5), (2, 6), (2, 7), (2, 8), (2, 9), (2, 10), (2, 11), (2, 12), (2, 13), (2, 14), (2, 15), (2, 16), (2, 17), (2, 18), (2, 19), (2, 20), (0, 0), (0, 0)]), (0, 4, []), (2, 96, []), (1, 96, []), (0, 96, []), (0, 96, []), (0, 4, []), (0, 24, []), (0, 24, []), (0, 4, []), (0, 4, []), (0, 5, []), (0, 20, []), (0, 12, []), (1, 12, []), (2, 12, []), (0, 12, []), (0, 169, []), (0, 13, []), (0, 13, []), (0, 64, [])]
def M_X6_init : fMem := (fup (fup (fup (fup (fup (fup (fup (fup (fup (fup (fup (fup (fup (fup (fup (fup (fup (fup (fup (fup (fup (fup (fup (fup (fup (fup (fup (fup (fup (fup (fup (fup (fup (fup (fup (fup (fup (fup (fup (fup (fup (fup (fup (fup (fup (fup (fup (fup (fun _ _ => 0) 12 0 (-1)) 12 1 (-1)) 12 2 (-1)) 12 3 (-1)) 12 4 (-1)) 12 5 (-1)) 12 6 (-1)) 12 7 (-1)) 12 8 (-1)) 12 9 (-1)) 12 10 (-1)) 12 11 (-1)) 12 12 (-1)) 12 13 (-1)) 12 14 (-1)) 12 15 (-1)) 12 16 (-1)) 12 17 (-1)) 12 18 (-1)) 12 19 (-1)) 9 0 (-1)) 9 1 (-1)) 9 2 (-1)) 9 3 (-1)) 13 0 (-1)) 16 0 (-1)) 13 1 (-1)) 16 1 (-1)) 13 2 (-1)) 16 2 (-1)) 13 3 (-1)) 16 3 (-1)) 13 4 (-1)) 16 4 (-1)) 13 5 (-1)) 16 5 (-1)) 13 6 (-1)) 16 6 (-1)) 13 7 (-1)) 16 7 (-1)) 13 8 (-1)) 16 8 (-1)) 13 9 (-1)) 16 9 (-1)) 13 10 (-1)) 16 10 (-1)) 13 11 (-1)) 16 11 (-1))
set_option maxRecDepth 100000 in
set_option maxHeartbeats 8000000 in
theorem cn_X6_init (l : Launch) : fNt l vwCl (4, 5, [(3, 0), (3, 0), (3, 0), (3, 0), (3, 0), (3, 0), (3, 0), (3, 0), (3, 0), (3, 0), (3, 0), (3, 0), (3, 0), (3, 0), (3, 0), (3, 0), (3, 0), (3, 0), (3, 0), (3, 0), (0, 0), (0, 0)]) TX6_init_40 yX6_init cX6_init 2 1 12 20 780 M_X6_init := by
  refine fNt.of (by decide +kernel) rfl (by decide) (fun p e s m args below meth c D aC ad hC hr hk hin hao => ?_)
  have hA : ∀ q, s.heap.size ≤ q → fNA ad s.heap.size q := fun q h => Or.inr h
  refine GN.of (g_aload_n hC 0 1 rfl dX6_init_0 rfl rfl (GN.to ?_))
  refine n_obj hC 4 cw_526 cw_74 cw_75 dX6_init_1 rfl (by decide) ?_
  refine GN.of (g_aload_n hC 0 5 rfl dX6_init_4 rfl rfl (GN.to ?_))
  refine GN.of (g_iconst hC 6 dX6_init_5 rfl (GN.to ?_))
  refine n_newI hC hA (by decide +kernel) 4 (fun _ => rfl) (fun ad => [(0, .ref (ad 0))]) (fun ad => [.ref (ad 0)]) (fun ad' h => by simp only [h 0 (by decide)]) (fun ad' h => by simp only [h 0 (by decide)]) cw_137 (by decide) (by decide) (by decide) dX6_init_6 8 rfl ?_
  intro ad1 q1 hC1
  have hC1 : fCx p s m args c vwCl D aC TX6_init_0 ad1 (fNA ad s.heap.size) goodTs cX6_init RX6 2 := hC1
  have z1 : ad1 0 = ad 0 := (q1 0 (by decide)).trans rfl
  show GN p l e _ s m args below meth c vwCl D aC TX6_init_0 ad1 (fNA ad s.heap.size) 2 _ _ _ 8 [(0, .ref (ad1 0))] [.ref (ad1 1), .ref (ad1 0)] _
  refine n_putR (ty := .array .int) hC1 11 TX6_init_1 tyX6 tyX6_ok nmX6 inX6 rfl 0 (by decide) gw_527 rfl rfl hin rfl (by decide +kernel) (fun _ => rfl) (fun _ => rfl) rfl (by decide) rfl dX6_init_8 rfl ?_
  intro hC2
  refine GN.of (g_aload_n hC2 0 12 rfl dX6_init_11 rfl rfl (GN.to ?_))
  refine GN.of (g_bipush hC2 14 dX6_init_12 rfl (by decide +kernel) (GN.to ?_))
  refine n_newJ hC2 hA (by decide +kernel) 96 (fun _ => rfl) (fun ad => [(0, .ref (ad 0))]) (fun ad => [.ref (ad 0)]) (fun ad' h => by simp only [h 0 (by decide)]) (fun ad' h => by simp only [h 0 (by decide)]) cw_135 (by decide) (by decide) (by decide) dX6_init_14 16 rfl ?_
  intro ad3 q3 hC3
  have hC3 : fCx p s m args c vwCl D aC TX6_init_2 ad3 (fNA ad s.heap.size) goodTs cX6_init RX6 2 := hC3
  have z3 : ad3 0 = ad 0 := (q3 0 (by decide)).trans z1
  show GN p l e _ s m args below meth c vwCl D aC TX6_init_2 ad3 (fNA ad s.heap.size) 2 _ _ _ 16 [(0, .ref (ad3 0))] [.ref (ad3 2), .ref (ad3 0)] _
  refine n_putR (ty := .array .long) hC3 19 TX6_init_3 tyX6 tyX6_ok nmX6 inX6 rfl 1 (by decide) gw_528 rfl rfl hin rfl (by decide +kernel) (fun _ => rfl) (fun _ => rfl) rfl (by decide) rfl dX6_init_16 rfl ?_
  intro hC4
  refine GN.of (g_aload_n hC4 0 20 rfl dX6_init_19 rfl rfl (GN.to ?_))
  refine GN.of (g_bipush hC4 22 dX6_init_20 rfl (by decide +kernel) (GN.to ?_))
  refine n_newZ hC4 hA (by decide +kernel) 96 (fun _ => rfl) (fun ad => [(0, .ref (ad 0))]) (fun ad => [.ref (ad 0)]) (fun ad' h => by simp only [h 0 (by decide)]) (fun ad' h => by simp only [h 0 (by decide)]) cw_136 (by decide) (by decide) (by decide) dX6_init_22 24 rfl ?_
  intro ad5 q5 hC5
  have hC5 : fCx p s m args c vwCl D aC TX6_init_4 ad5 (fNA ad s.heap.size) goodTs cX6_init RX6 2 := hC5
  have z5 : ad5 0 = ad 0 := (q5 0 (by decide)).trans z3
  show GN p l e _ s m args below meth c vwCl D aC TX6_init_4 ad5 (fNA ad s.heap.size) 2 _ _ _ 24 [(0, .ref (ad5 0))] [.ref (ad5 3), .ref (ad5 0)] _
  refine n_putR (ty := .array .boolean) hC5 27 TX6_init_5 tyX6 tyX6_ok nmX6 inX6 rfl 2 (by decide) gw_529 rfl rfl hin rfl (by decide +kernel) (fun _ => rfl) (fun _ => rfl) rfl (by decide) rfl dX6_init_24 rfl ?_
  intro hC6
  refine GN.of (g_aload_n hC6 0 28 rfl dX6_init_27 rfl rfl (GN.to ?_))
  refine GN.of (g_bipush hC6 30 dX6_init_28 rfl (by decide +kernel) (GN.to ?_))
  refine n_newI hC6 hA (by decide +kernel) 96 (fun _ => rfl) (fun ad => [(0, .ref (ad 0))]) (fun ad => [.ref (ad 0)]) (fun ad' h => by simp only [h 0 (by decide)]) (fun ad' h => by simp only [h 0 (by decide)]) cw_137 (by decide) (by decide) (by decide) dX6_init_30 32 rfl ?_
  intro ad7 q7 hC7
  have hC7 : fCx p s m args c vwCl D aC TX6_init_6 ad7 (fNA ad s.heap.size) goodTs cX6_init RX6 2 := hC7
  have z7 : ad7 0 = ad 0 := (q7 0 (by decide)).trans z5
  show GN p l e _ s m args below meth c vwCl D aC TX6_init_6 ad7 (fNA ad s.heap.size) 2 _ _ _ 32 [(0, .ref (ad7 0))] [.ref (ad7 4), .ref (ad7 0)] _
  refine n_putR (ty := .array .int) hC7 35 TX6_init_7 tyX6 tyX6_ok nmX6 inX6 rfl 3 (by decide) gw_530 rfl rfl hin rfl (by decide +kernel) (fun _ => rfl) (fun _ => rfl) rfl (by decide) rfl dX6_init_32 rfl ?_
  intro hC8
  refine GN.of (g_aload_n hC8 0 36 rfl dX6_init_35 rfl rfl (GN.to ?_))
  refine GN.of (g_bipush hC8 38 dX6_init_36 rfl (by decide +kernel) (GN.to ?_))
  refine n_newI hC8 hA (by decide +kernel) 96 (fun _ => rfl) (fun ad => [(0, .ref (ad 0))]) (fun ad => [.ref (ad 0)]) (fun ad' h => by simp only [h 0 (by decide)]) (fun ad' h => by simp only [h 0 (by decide)]) cw_137 (by decide) (by decide) (by decide) dX6_init_38 40 rfl ?_
  intro ad9 q9 hC9
  have hC9 : fCx p s m args c vwCl D aC TX6_init_8 ad9 (fNA ad s.heap.size) goodTs cX6_init RX6 2 := hC9
  have z9 : ad9 0 = ad 0 := (q9 0 (by decide)).trans z7
  show GN p l e _ s m args below meth c vwCl D aC TX6_init_8 ad9 (fNA ad s.heap.size) 2 _ _ _ 40 [(0, .ref (ad9 0))] [.ref (ad9 5), .ref (ad9 0)] _
  refine n_putR (ty := .array .int) hC9 43 TX6_init_9 tyX6 tyX6_ok nmX6 inX6 rfl 4 (by decide) gw_531 rfl rfl hin rfl (by decide +kernel) (fun _ => rfl) (fun _ => rfl) rfl (by decide) rfl dX6_init_40 rfl ?_
  intro hC10
  refine GN.of (g_aload_n hC10 0 44 rfl dX6_init_43 rfl rfl (GN.to ?_))
  refine GN.of (g_iconst hC10 45 dX6_init_44 rfl (GN.to ?_))
  refine n_newI hC10 hA (by decide +kernel) 4 (fun _ => rfl) (fun ad => [(0, .ref (ad 0))]) (fun ad => [.ref (ad 0)]) (fun ad' h => by simp only [h 0 (by decide)]) (fun ad' h => by simp only [h 0 (by decide)]) cw_137 (by decide) (by decide) (by decide) dX6_init_45 47 rfl ?_
  intro ad11 q11 hC11
  have hC11 : fCx p s m args c vwCl D aC TX6_init_10 ad11 (fNA ad s.heap.size) goodTs cX6_init RX6 2 := hC11
  have z11 : ad11 0 = ad 0 := (q11 0 (by decide)).trans z9
  show GN p l e _ s m args below meth c vwCl D aC TX6_init_10 ad11 (fNA ad s.heap.size) 2 _ _ _ 47 [(0, .ref (ad11 0))] [.ref (ad11 6), .ref (ad11 0)] _
  refine n_putR (ty := .array .int) hC11 50 TX6_init_11 tyX6 tyX6_ok nmX6 inX6 rfl 5 (by decide) gw_532 rfl rfl hin rfl (by decide +kernel) (fun _ => rfl) (fun _ => rfl) rfl (by decide) rfl dX6_init_47 rfl ?_
  intro hC12
  refine GN.of (g_aload_n hC12 0 51 rfl dX6_init_50 rfl rfl (GN.to ?_))
  refine GN.of (g_bipush hC12 53 dX6_init_51 rfl (by decide +kernel) (GN.to ?_))
  refine n_newI hC12 hA (by decide +kernel) 24 (fun _ => rfl) (fun ad => [(0, .ref (ad 0))]) (fun ad => [.ref (ad 0)]) (fun ad' h => by simp only [h 0 (by decide)]) (fun ad' h => by simp only [h 0 (by decide)]) cw_137 (by decide) (by decide) (by decide) dX6_init_53 55 rfl ?_
  intro ad13 q13 hC13
  have hC13 : fCx p s m args c vwCl D aC TX6_init_12 ad13 (fNA ad s.heap.size) goodTs cX6_init RX6 2 := hC13
  have z13 : ad13 0 = ad 0 := (q13 0 (by decide)).trans z11
  show GN p l e _ s m args below meth c vwCl D aC TX6_init_12 ad13 (fNA ad s.heap.size) 2 _ _ _ 55 [(0, .ref (ad13 0))] [.ref (ad13 7), .ref (ad13 0)] _
  refine n_putR (ty := .array .int) hC13 58 TX6_init_13 tyX6 tyX6_ok nmX6 inX6 rfl 6 (by decide) gw_533 rfl rfl hin rfl (by decide +kernel) (fun _ => rfl) (fun _ => rfl) rfl (by decide) rfl dX6_init_55 rfl ?_
  intro hC14
  refine GN.of (g_aload_n hC14 0 59 rfl dX6_init_58 rfl rfl (GN.to ?_))
  refine GN.of (g_bipush hC14 61 dX6_init_59 rfl (by decide +kernel) (GN.to ?_))
  refine n_newI hC14 hA (by decide +kernel) 24 (fun _ => rfl) (fun ad => [(0, .ref (ad 0))]) (fun ad => [.ref (ad 0)]) (fun ad' h => by simp only [h 0 (by decide)]) (fun ad' h => by simp only [h 0 (by decide)]) cw_137 (by decide) (by decide) (by decide) dX6_init_61 63 rfl ?_
  intro ad15 q15 hC15
  have hC15 : fCx p s m args c vwCl D aC TX6_init_14 ad15 (fNA ad s.heap.size) goodTs cX6_init RX6 2 := hC15
  have z15 : ad15 0 = ad 0 := (q15 0 (by decide)).trans z13
  show GN p l e _ s m args below meth c vwCl D aC TX6_init_14 ad15 (fNA ad s.heap.size) 2 _ _ _ 63 [(0, .ref (ad15 0))] [.ref (ad15 8), .ref (ad15 0)] _
  refine n_putR (ty := .array .int) hC15 66 TX6_init_15 tyX6 tyX6_ok nmX6 inX6 rfl 7 (by decide) gw_534 rfl rfl hin rfl (by decide +kernel) (fun _ => rfl) (fun _ => rfl) rfl (by decide) rfl dX6_init_63 rfl ?_
  intro hC16
  refine GN.of (g_aload_n hC16 0 67 rfl dX6_init_66 rfl rfl (GN.to ?_))
  refine GN.of (g_iconst hC16 68 dX6_init_67 rfl (GN.to ?_))
  refine n_newI hC16 hA (by decide +kernel) 4 (fun _ => rfl) (fun ad => [(0, .ref (ad 0))]) (fun ad => [.ref (ad 0)]) (fun ad' h => by simp only [h 0 (by decide)]) (fun ad' h => by simp only [h 0 (by decide)]) cw_137 (by decide) (by decide) (by decide) dX6_init_68 70 rfl ?_
  intro ad17 q17 hC17
  have hC17 : fCx p s m args c vwCl D aC TX6_init_16 ad17 (fNA ad s.heap.size) goodTs cX6_init RX6 2 := hC17
  have z17 : ad17 0 = ad 0 := (q17 0 (by decide)).trans z15
  show GN p l e _ s m args below meth c vwCl D aC TX6_init_16 ad17 (fNA ad s.heap.size) 2 _ _ _ 70 [(0, .ref (ad17 0))] [.ref (ad17 9), .ref (ad17 0)] _
  refine n_putR (ty := .array .int) hC17 73 TX6_init_17 tyX6 tyX6_ok nmX6 inX6 rfl 8 (by decide) gw_535 rfl rfl hin rfl (by decide +kernel) (fun _ => rfl) (fun _ => rfl) rfl (by decide) rfl dX6_init_70 rfl ?_
  intro hC18
  refine GN.of (g_aload_n hC18 0 74 rfl dX6_init_73 rfl rfl (GN.to ?_))
  refine GN.of (g_iconst hC18 75 dX6_init_74 rfl (GN.to ?_))
  refine n_newI hC18 hA (by decide +kernel) 4 (fun _ => rfl) (fun ad => [(0, .ref (ad 0))]) (fun ad => [.ref (ad 0)]) (fun ad' h => by simp only [h 0 (by decide)]) (fun ad' h => by simp only [h 0 (by decide)]) cw_137 (by decide) (by decide) (by decide) dX6_init_75 77 rfl ?_
  intro ad19 q19 hC19
  have hC19 : fCx p s m args c vwCl D aC TX6_init_18 ad19 (fNA ad s.heap.size) goodTs cX6_init RX6 2 := hC19
  have z19 : ad19 0 = ad 0 := (q19 0 (by decide)).trans z17
  show GN p l e _ s m args below meth c vwCl D aC TX6_init_18 ad19 (fNA ad s.heap.size) 2 _ _ _ 77 [(0, .ref (ad19 0))] [.ref (ad19 10), .ref (ad19 0)] _
  refine n_putR (ty := .array .int) hC19 80 TX6_init_19 tyX6 tyX6_ok nmX6 inX6 rfl 9 (by decide) gw_536 rfl rfl hin rfl (by decide +kernel) (fun _ => rfl) (fun _ => rfl) rfl (by decide) rfl dX6_init_77 rfl ?_
  intro hC20
  refine GN.of (g_aload_n hC20 0 81 rfl dX6_init_80 rfl rfl (GN.to ?_))
  refine GN.of (g_iconst hC20 82 dX6_init_81 rfl (GN.to ?_))
  refine n_newI hC20 hA (by decide +kernel) 5 (fun _ => rfl) (fun ad => [(0, .ref (ad 0))]) (fun ad => [.ref (ad 0)]) (fun ad' h => by simp only [h 0 (by decide)]) (fun ad' h => by simp only [h 0 (by decide)]) cw_137 (by decide) (by decide) (by decide) dX6_init_82 84 rfl ?_
  intro ad21 q21 hC21
  have hC21 : fCx p s m args c vwCl D aC TX6_init_20 ad21 (fNA ad s.heap.size) goodTs cX6_init RX6 2 := hC21
  have z21 : ad21 0 = ad 0 := (q21 0 (by decide)).trans z19
  show GN p l e _ s m args below meth c vwCl D aC TX6_init_20 ad21 (fNA ad s.heap.size) 2 _ _ _ 84 [(0, .ref (ad21 0))] [.ref (ad21 11), .ref (ad21 0)] _
  refine n_putR (ty := .array .int) hC21 87 TX6_init_21 tyX6 tyX6_ok nmX6 inX6 rfl 10 (by decide) gw_537 rfl rfl hin rfl (by decide +kernel) (fun _ => rfl) (fun _ => rfl) rfl (by decide) rfl dX6_init_84 rfl ?_
  intro hC22
  refine GN.of (g_aload_n hC22 0 88 rfl dX6_init_87 rfl rfl (GN.to ?_))
  refine GN.of (g_bipush hC22 90 dX6_init_88 rfl (by decide +kernel) (GN.to ?_))
  refine n_newI hC22 hA (by decide +kernel) 20 (fun _ => rfl) (fun ad => [(0, .ref (ad 0))]) (fun ad => [.ref (ad 0)]) (fun ad' h => by simp only [h 0 (by decide)]) (fun ad' h => by simp only [h 0 (by decide)]) cw_137 (by decide) (by decide) (by decide) dX6_init_90 92 rfl ?_
  intro ad23 q23 hC23
  have hC23 : fCx p s m args c vwCl D aC TX6_init_22 ad23 (fNA ad s.heap.size) goodTs cX6_init RX6 2 := hC23
  have z23 : ad23 0 = ad 0 := (q23 0 (by decide)).trans z21
  show GN p l e _ s m args below meth c vwCl D aC TX6_init_22 ad23 (fNA ad s.heap.size) 2 _ _ _ 92 [(0, .ref (ad23 0))] [.ref (ad23 12), .ref (ad23 0)] _
  refine n_putR (ty := .array .int) hC23 95 TX6_init_23 tyX6 tyX6_ok nmX6 inX6 rfl 11 (by decide) gw_538 rfl rfl hin rfl (by decide +kernel) (fun _ => rfl) (fun _ => rfl) rfl (by decide) rfl dX6_init_92 rfl ?_
  intro hC24
  refine GN.of (g_aload_n hC24 0 96 rfl dX6_init_95 rfl rfl (GN.to ?_))
  refine GN.of (g_bipush hC24 98 dX6_init_96 rfl (by decide +kernel) (GN.to ?_))
  refine n_newI hC24 hA (by decide +kernel) 12 (fun _ => rfl) (fun ad => [(0, .ref (ad 0))]) (fun ad => [.ref (ad 0)]) (fun ad' h => by simp only [h 0 (by decide)]) (fun ad' h => by simp only [h 0 (by decide)]) cw_137 (by decide) (by decide) (by decide) dX6_init_98 100 rfl ?_
  intro ad25 q25 hC25
  have hC25 : fCx p s m args c vwCl D aC TX6_init_24 ad25 (fNA ad s.heap.size) goodTs cX6_init RX6 2 := hC25
  have z25 : ad25 0 = ad 0 := (q25 0 (by decide)).trans z23
  show GN p l e _ s m args below meth c vwCl D aC TX6_init_24 ad25 (fNA ad s.heap.size) 2 _ _ _ 100 [(0, .ref (ad25 0))] [.ref (ad25 13), .ref (ad25 0)] _
  refine n_putR (ty := .array .int) hC25 103 TX6_init_25 tyX6 tyX6_ok nmX6 inX6 rfl 12 (by decide) gw_539 rfl rfl hin rfl (by decide +kernel) (fun _ => rfl) (fun _ => rfl) rfl (by decide) rfl dX6_init_100 rfl ?_
  intro hC26
  refine GN.of (g_aload_n hC26 0 104 rfl dX6_init_103 rfl rfl (GN.to ?_))
  refine GN.of (g_bipush hC26 106 dX6_init_104 rfl (by decide +kernel) (GN.to ?_))
  refine n_newZ hC26 hA (by decide +kernel) 12 (fun _ => rfl) (fun ad => [(0, .ref (ad 0))]) (fun ad => [.ref (ad 0)]) (fun ad' h => by simp only [h 0 (by decide)]) (fun ad' h => by simp only [h 0 (by decide)]) cw_136 (by decide) (by decide) (by decide) dX6_init_106 108 rfl ?_
  intro ad27 q27 hC27
  have hC27 : fCx p s m args c vwCl D aC TX6_init_26 ad27 (fNA ad s.heap.size) goodTs cX6_init RX6 2 := hC27
  have z27 : ad27 0 = ad 0 := (q27 0 (by decide)).trans z25
  show GN p l e _ s m args below meth c vwCl D aC TX6_init_26 ad27 (fNA ad s.heap.size) 2 _ _ _ 108 [(0, .ref (ad27 0))] [.ref (ad27 14), .ref (ad27 0)] _
  refine n_putR (ty := .array .boolean) hC27 111 TX6_init_27 tyX6 tyX6_ok nmX6 inX6 rfl 13 (by decide) gw_540 rfl rfl hin rfl (by decide +kernel) (fun _ => rfl) (fun _ => rfl) rfl (by decide) rfl dX6_init_108 rfl ?_
  intro hC28
  refine GN.of (g_aload_n hC28 0 112 rfl dX6_init_111 rfl rfl (GN.to ?_))
  refine GN.of (g_bipush hC28 114 dX6_init_112 rfl (by decide +kernel) (GN.to ?_))
  refine n_newJ hC28 hA (by decide +kernel) 12 (fun _ => rfl) (fun ad => [(0, .ref (ad 0))]) (fun ad => [.ref (ad 0)]) (fun ad' h => by simp only [h 0 (by decide)]) (fun ad' h => by simp only [h 0 (by decide)]) cw_135 (by decide) (by decide) (by decide) dX6_init_114 116 rfl ?_
  intro ad29 q29 hC29
  have hC29 : fCx p s m args c vwCl D aC TX6_init_28 ad29 (fNA ad s.heap.size) goodTs cX6_init RX6 2 := hC29
  have z29 : ad29 0 = ad 0 := (q29 0 (by decide)).trans z27
  show GN p l e _ s m args below meth c vwCl D aC TX6_init_28 ad29 (fNA ad s.heap.size) 2 _ _ _ 116 [(0, .ref (ad29 0))] [.ref (ad29 15), .ref (ad29 0)] _
  refine n_putR (ty := .array .long) hC29 119 TX6_init_29 tyX6 tyX6_ok nmX6 inX6 rfl 14 (by decide) gw_541 rfl rfl hin rfl (by decide +kernel) (fun _ => rfl) (fun _ => rfl) rfl (by decide) rfl dX6_init_116 rfl ?_
  intro hC30
  refine GN.of (g_aload_n hC30 0 120 rfl dX6_init_119 rfl rfl (GN.to ?_))
  refine GN.of (g_bipush hC30 122 dX6_init_120 rfl (by decide +kernel) (GN.to ?_))
  refine n_newI hC30 hA (by decide +kernel) 12 (fun _ => rfl) (fun ad => [(0, .ref (ad 0))]) (fun ad => [.ref (ad 0)]) (fun ad' h => by simp only [h 0 (by decide)]) (fun ad' h => by simp only [h 0 (by decide)]) cw_137 (by decide) (by decide) (by decide) dX6_init_122 124 rfl ?_
  intro ad31 q31 hC31
  have hC31 : fCx p s m args c vwCl D aC TX6_init_30 ad31 (fNA ad s.heap.size) goodTs cX6_init RX6 2 := hC31
  have z31 : ad31 0 = ad 0 := (q31 0 (by decide)).trans z29
  show GN p l e _ s m args below meth c vwCl D aC TX6_init_30 ad31 (fNA ad s.heap.size) 2 _ _ _ 124 [(0, .ref (ad31 0))] [.ref (ad31 16), .ref (ad31 0)] _
  refine n_putR (ty := .array .int) hC31 127 TX6_init_31 tyX6 tyX6_ok nmX6 inX6 rfl 15 (by decide) gw_542 rfl rfl hin rfl (by decide +kernel) (fun _ => rfl) (fun _ => rfl) rfl (by decide) rfl dX6_init_124 rfl ?_
  intro hC32
  refine GN.of (g_aload_n hC32 0 128 rfl dX6_init_127 rfl rfl (GN.to ?_))
  refine GN.of (g_sipush hC32 131 dX6_init_128 rfl (by decide +kernel) (GN.to ?_))
  refine n_newI hC32 hA (by decide +kernel) 169 (fun _ => rfl) (fun ad => [(0, .ref (ad 0))]) (fun ad => [.ref (ad 0)]) (fun ad' h => by simp only [h 0 (by decide)]) (fun ad' h => by simp only [h 0 (by decide)]) cw_137 (by decide) (by decide) (by decide) dX6_init_131 133 rfl ?_
  intro ad33 q33 hC33
  have hC33 : fCx p s m args c vwCl D aC TX6_init_32 ad33 (fNA ad s.heap.size) goodTs cX6_init RX6 2 := hC33
  have z33 : ad33 0 = ad 0 := (q33 0 (by decide)).trans z31
  show GN p l e _ s m args below meth c vwCl D aC TX6_init_32 ad33 (fNA ad s.heap.size) 2 _ _ _ 133 [(0, .ref (ad33 0))] [.ref (ad33 17), .ref (ad33 0)] _
  refine n_putR (ty := .array .int) hC33 136 TX6_init_33 tyX6 tyX6_ok nmX6 inX6 rfl 16 (by decide) gw_543 rfl rfl hin rfl (by decide +kernel) (fun _ => rfl) (fun _ => rfl) rfl (by decide) rfl dX6_init_133 rfl ?_
  intro hC34
  refine GN.of (g_aload_n hC34 0 137 rfl dX6_init_136 rfl rfl (GN.to ?_))
  refine GN.of (g_bipush hC34 139 dX6_init_137 rfl (by decide +kernel) (GN.to ?_))
  refine n_newI hC34 hA (by decide +kernel) 13 (fun _ => rfl) (fun ad => [(0, .ref (ad 0))]) (fun ad => [.ref (ad 0)]) (fun ad' h => by simp only [h 0 (by decide)]) (fun ad' h => by simp only [h 0 (by decide)]) cw_137 (by decide) (by decide) (by decide) dX6_init_139 141 rfl ?_
  intro ad35 q35 hC35
  have hC35 : fCx p s m args c vwCl D aC TX6_init_34 ad35 (fNA ad s.heap.size) goodTs cX6_init RX6 2 := hC35
  have z35 : ad35 0 = ad 0 := (q35 0 (by decide)).trans z33
  show GN p l e _ s m args below meth c vwCl D aC TX6_init_34 ad35 (fNA ad s.heap.size) 2 _ _ _ 141 [(0, .ref (ad35 0))] [.ref (ad35 18), .ref (ad35 0)] _
  refine n_putR (ty := .array .int) hC35 144 TX6_init_35 tyX6 tyX6_ok nmX6 inX6 rfl 17 (by decide) gw_544 rfl rfl hin rfl (by decide +kernel) (fun _ => rfl) (fun _ => rfl) rfl (by decide) rfl dX6_init_141 rfl ?_
  intro hC36
  refine GN.of (g_aload_n hC36 0 145 rfl dX6_init_144 rfl rfl (GN.to ?_))
  refine GN.of (g_bipush hC36 147 dX6_init_145 rfl (by decide +kernel) (GN.to ?_))
  refine n_newI hC36 hA (by decide +kernel) 13 (fun _ => rfl) (fun ad => [(0, .ref (ad 0))]) (fun ad => [.ref (ad 0)]) (fun ad' h => by simp only [h 0 (by decide)]) (fun ad' h => by simp only [h 0 (by decide)]) cw_137 (by decide) (by decide) (by decide) dX6_init_147 149 rfl ?_
  intro ad37 q37 hC37
  have hC37 : fCx p s m args c vwCl D aC TX6_init_36 ad37 (fNA ad s.heap.size) goodTs cX6_init RX6 2 := hC37
  have z37 : ad37 0 = ad 0 := (q37 0 (by decide)).trans z35
  show GN p l e _ s m args below meth c vwCl D aC TX6_init_36 ad37 (fNA ad s.heap.size) 2 _ _ _ 149 [(0, .ref (ad37 0))] [.ref (ad37 19), .ref (ad37 0)] _
  refine n_putR (ty := .array .int) hC37 152 TX6_init_37 tyX6 tyX6_ok nmX6 inX6 rfl 18 (by decide) gw_545 rfl rfl hin rfl (by decide +kernel) (fun _ => rfl) (fun _ => rfl) rfl (by decide) rfl dX6_init_149 rfl ?_
  intro hC38
  refine GN.of (g_aload_n hC38 0 153 rfl dX6_init_152 rfl rfl (GN.to ?_))
  refine GN.of (g_bipush hC38 155 dX6_init_153 rfl (by decide +kernel) (GN.to ?_))
  refine n_newI hC38 hA (by decide +kernel) 64 (fun _ => rfl) (fun ad => [(0, .ref (ad 0))]) (fun ad => [.ref (ad 0)]) (fun ad' h => by simp only [h 0 (by decide)]) (fun ad' h => by simp only [h 0 (by decide)]) cw_137 (by decide) (by decide) (by decide) dX6_init_155 157 rfl ?_
  intro ad39 q39 hC39
  have hC39 : fCx p s m args c vwCl D aC TX6_init_38 ad39 (fNA ad s.heap.size) goodTs cX6_init RX6 2 := hC39
  have z39 : ad39 0 = ad 0 := (q39 0 (by decide)).trans z37
  show GN p l e _ s m args below meth c vwCl D aC TX6_init_38 ad39 (fNA ad s.heap.size) 2 _ _ _ 157 [(0, .ref (ad39 0))] [.ref (ad39 20), .ref (ad39 0)] _
  refine n_putR (ty := .array .int) hC39 160 TX6_init_39 tyX6 tyX6_ok nmX6 inX6 rfl 19 (by decide) gw_546 rfl rfl hin rfl (by decide +kernel) (fun _ => rfl) (fun _ => rfl) rfl (by decide) rfl dX6_init_157 rfl ?_
  intro hC40
  refine GN.of (g_iconst hC40 161 dX6_init_160 rfl (GN.to ?_))
  refine GN.of (g_istore_n hC40 162 [(1, .int (fI 0)), (0, .ref (ad39 0))] dX6_init_161 rfl (by decide) rfl rfl (GN.to ?_))
  refine GN.of (g_iload_n hC40 0 163 rfl dX6_init_162 rfl rfl (GN.to ?_))
  refine GN.of (g_bipush hC40 165 dX6_init_163 rfl (by decide +kernel) (GN.to ?_))
  refine n_ge_f hC40 181 168 (by decide) (by decide) dX6_init_165 rfl rfl ?_
  refine GN.of (g_aload_n hC40 1 169 rfl dX6_init_168 rfl rfl (GN.to ?_))
  refine GN.of (g_getA hC40 172 inX6 rfl 11 (by decide) gw_538 rfl rfl rfl dX6_init_169 rfl (GN.to ?_))
  refine GN.of (g_iload_n hC40 0 173 rfl dX6_init_172 rfl rfl (GN.to ?_))
  refine GN.of (g_iconst hC40 174 dX6_init_173 rfl (GN.to ?_))
  refine n_iast hC40 (by decide) 175 rfl (by decide) dX6_init_174 rfl ?_
  refine GN.of (g_iinc hC40 0 178 [(1, .int (fI 1)), (0, .ref (ad39 0))] rfl dX6_init_175 (by decide) rfl rfl (GN.to ?_))
  refine GN.of (g_goto hC40 162 dX6_init_178 rfl (GN.to ?_))
  refine GN.of (g_iload_n hC40 0 163 rfl dX6_init_162 rfl rfl (GN.to ?_))
  refine GN.of (g_bipush hC40 165 dX6_init_163 rfl (by decide +kernel) (GN.to ?_))
  refine n_ge_f hC40 181 168 (by decide) (by decide) dX6_init_165 rfl rfl ?_
  refine GN.of (g_aload_n hC40 1 169 rfl dX6_init_168 rfl rfl (GN.to ?_))
  refine GN.of (g_getA hC40 172 inX6 rfl 11 (by decide) gw_538 rfl rfl rfl dX6_init_169 rfl (GN.to ?_))
  refine GN.of (g_iload_n hC40 0 173 rfl dX6_init_172 rfl rfl (GN.to ?_))
  refine GN.of (g_iconst hC40 174 dX6_init_173 rfl (GN.to ?_))
  refine n_iast hC40 (by decide) 175 rfl (by decide) dX6_init_174 rfl ?_
  refine GN.of (g_iinc hC40 0 178 [(1, .int (fI 2)), (0, .ref (ad39 0))] rfl dX6_init_175 (by decide) rfl rfl (GN.to ?_))
  refine GN.of (g_goto hC40 162 dX6_init_178 rfl (GN.to ?_))
  refine GN.of (g_iload_n hC40 0 163 rfl dX6_init_162 rfl rfl (GN.to ?_))
  refine GN.of (g_bipush hC40 165 dX6_init_163 rfl (by decide +kernel) (GN.to ?_))
  refine n_ge_f hC40 181 168 (by decide) (by decide) dX6_init_165 rfl rfl ?_
  refine GN.of (g_aload_n hC40 1 169 rfl dX6_init_168 rfl rfl (GN.to ?_))
  refine GN.of (g_getA hC40 172 inX6 rfl 11 (by decide) gw_538 rfl rfl rfl dX6_init_169 rfl (GN.to ?_))
  refine GN.of (g_iload_n hC40 0 173 rfl dX6_init_172 rfl rfl (GN.to ?_))
  refine GN.of (g_iconst hC40 174 dX6_init_173 rfl (GN.to ?_))
  refine n_iast hC40 (by decide) 175 rfl (by decide) dX6_init_174 rfl ?_
  refine GN.of (g_iinc hC40 0 178 [(1, .int (fI 3)), (0, .ref (ad39 0))] rfl dX6_init_175 (by decide) rfl rfl (GN.to ?_))
  refine GN.of (g_goto hC40 162 dX6_init_178 rfl (GN.to ?_))
  refine GN.of (g_iload_n hC40 0 163 rfl dX6_init_162 rfl rfl (GN.to ?_))
  refine GN.of (g_bipush hC40 165 dX6_init_163 rfl (by decide +kernel) (GN.to ?_))
  refine n_ge_f hC40 181 168 (by decide) (by decide) dX6_init_165 rfl rfl ?_
  refine GN.of (g_aload_n hC40 1 169 rfl dX6_init_168 rfl rfl (GN.to ?_))
  refine GN.of (g_getA hC40 172 inX6 rfl 11 (by decide) gw_538 rfl rfl rfl dX6_init_169 rfl (GN.to ?_))
  refine GN.of (g_iload_n hC40 0 173 rfl dX6_init_172 rfl rfl (GN.to ?_))
  refine GN.of (g_iconst hC40 174 dX6_init_173 rfl (GN.to ?_))
  refine n_iast hC40 (by decide) 175 rfl (by decide) dX6_init_174 rfl ?_
  refine GN.of (g_iinc hC40 0 178 [(1, .int (fI 4)), (0, .ref (ad39 0))] rfl dX6_init_175 (by decide) rfl rfl (GN.to ?_))
  refine GN.of (g_goto hC40 162 dX6_init_178 rfl (GN.to ?_))
  refine GN.of (g_iload_n hC40 0 163 rfl dX6_init_162 rfl rfl (GN.to ?_))
  refine GN.of (g_bipush hC40 165 dX6_init_163 rfl (by decide +kernel) (GN.to ?_))
  refine n_ge_f hC40 181 168 (by decide) (by decide) dX6_init_165 rfl rfl ?_
  refine GN.of (g_aload_n hC40 1 169 rfl dX6_init_168 rfl rfl (GN.to ?_))
  refine GN.of (g_getA hC40 172 inX6 rfl 11 (by decide) gw_538 rfl rfl rfl dX6_init_169 rfl (GN.to ?_))
  refine GN.of (g_iload_n hC40 0 173 rfl dX6_init_172 rfl rfl (GN.to ?_))
  refine GN.of (g_iconst hC40 174 dX6_init_173 rfl (GN.to ?_))
  refine n_iast hC40 (by decide) 175 rfl (by decide) dX6_init_174 rfl ?_
  refine GN.of (g_iinc hC40 0 178 [(1, .int (fI 5)), (0, .ref (ad39 0))] rfl dX6_init_175 (by decide) rfl rfl (GN.to ?_))
  refine GN.of (g_goto hC40 162 dX6_init_178 rfl (GN.to ?_))
  refine GN.of (g_iload_n hC40 0 163 rfl dX6_init_162 rfl rfl (GN.to ?_))
  refine GN.of (g_bipush hC40 165 dX6_init_163 rfl (by decide +kernel) (GN.to ?_))
  refine n_ge_f hC40 181 168 (by decide) (by decide) dX6_init_165 rfl rfl ?_
  refine GN.of (g_aload_n hC40 1 169 rfl dX6_init_168 rfl rfl (GN.to ?_))
  refine GN.of (g_getA hC40 172 inX6 rfl 11 (by decide) gw_538 rfl rfl rfl dX6_init_169 rfl (GN.to ?_))
  refine GN.of (g_iload_n hC40 0 173 rfl dX6_init_172 rfl rfl (GN.to ?_))
  refine GN.of (g_iconst hC40 174 dX6_init_173 rfl (GN.to ?_))
  refine n_iast hC40 (by decide) 175 rfl (by decide) dX6_init_174 rfl ?_
  refine GN.of (g_iinc hC40 0 178 [(1, .int (fI 6)), (0, .ref (ad39 0))] rfl dX6_init_175 (by decide) rfl rfl (GN.to ?_))
  refine GN.of (g_goto hC40 162 dX6_init_178 rfl (GN.to ?_))
  refine GN.of (g_iload_n hC40 0 163 rfl dX6_init_162 rfl rfl (GN.to ?_))
  refine GN.of (g_bipush hC40 165 dX6_init_163 rfl (by decide +kernel) (GN.to ?_))
  refine n_ge_f hC40 181 168 (by decide) (by decide) dX6_init_165 rfl rfl ?_
  refine GN.of (g_aload_n hC40 1 169 rfl dX6_init_168 rfl rfl (GN.to ?_))
  refine GN.of (g_getA hC40 172 inX6 rfl 11 (by decide) gw_538 rfl rfl rfl dX6_init_169 rfl (GN.to ?_))
  refine GN.of (g_iload_n hC40 0 173 rfl dX6_init_172 rfl rfl (GN.to ?_))
  refine GN.of (g_iconst hC40 174 dX6_init_173 rfl (GN.to ?_))
  refine n_iast hC40 (by decide) 175 rfl (by decide) dX6_init_174 rfl ?_
  refine GN.of (g_iinc hC40 0 178 [(1, .int (fI 7)), (0, .ref (ad39 0))] rfl dX6_init_175 (by decide) rfl rfl (GN.to ?_))
  refine GN.of (g_goto hC40 162 dX6_init_178 rfl (GN.to ?_))
  refine GN.of (g_iload_n hC40 0 163 rfl dX6_init_162 rfl rfl (GN.to ?_))
  refine GN.of (g_bipush hC40 165 dX6_init_163 rfl (by decide +kernel) (GN.to ?_))
  refine n_ge_f hC40 181 168 (by decide) (by decide) dX6_init_165 rfl rfl ?_
  refine GN.of (g_aload_n hC40 1 169 rfl dX6_init_168 rfl rfl (GN.to ?_))
  refine GN.of (g_getA hC40 172 inX6 rfl 11 (by decide) gw_538 rfl rfl rfl dX6_init_169 rfl (GN.to ?_))
  refine GN.of (g_iload_n hC40 0 173 rfl dX6_init_172 rfl rfl (GN.to ?_))
  refine GN.of (g_iconst hC40 174 dX6_init_173 rfl (GN.to ?_))
  refine n_iast hC40 (by decide) 175 rfl (by decide) dX6_init_174 rfl ?_
  refine GN.of (g_iinc hC40 0 178 [(1, .int (fI 8)), (0, .ref (ad39 0))] rfl dX6_init_175 (by decide) rfl rfl (GN.to ?_))
  refine GN.of (g_goto hC40 162 dX6_init_178 rfl (GN.to ?_))
  refine GN.of (g_iload_n hC40 0 163 rfl dX6_init_162 rfl rfl (GN.to ?_))
  refine GN.of (g_bipush hC40 165 dX6_init_163 rfl (by decide +kernel) (GN.to ?_))
  refine n_ge_f hC40 181 168 (by decide) (by decide) dX6_init_165 rfl rfl ?_
  refine GN.of (g_aload_n hC40 1 169 rfl dX6_init_168 rfl rfl (GN.to ?_))
  refine GN.of (g_getA hC40 172 inX6 rfl 11 (by decide) gw_538 rfl rfl rfl dX6_init_169 rfl (GN.to ?_))
  refine GN.of (g_iload_n hC40 0 173 rfl dX6_init_172 rfl rfl (GN.to ?_))
  refine GN.of (g_iconst hC40 174 dX6_init_173 rfl (GN.to ?_))
  refine n_iast hC40 (by decide) 175 rfl (by decide) dX6_init_174 rfl ?_
  refine GN.of (g_iinc hC40 0 178 [(1, .int (fI 9)), (0, .ref (ad39 0))] rfl dX6_init_175 (by decide) rfl rfl (GN.to ?_))
  refine GN.of (g_goto hC40 162 dX6_init_178 rfl (GN.to ?_))
  refine GN.of (g_iload_n hC40 0 163 rfl dX6_init_162 rfl rfl (GN.to ?_))
  refine GN.of (g_bipush hC40 165 dX6_init_163 rfl (by decide +kernel) (GN.to ?_))
  refine n_ge_f hC40 181 168 (by decide) (by decide) dX6_init_165 rfl rfl ?_
  refine GN.of (g_aload_n hC40 1 169 rfl dX6_init_168 rfl rfl (GN.to ?_))
  refine GN.of (g_getA hC40 172 inX6 rfl 11 (by decide) gw_538 rfl rfl rfl dX6_init_169 rfl (GN.to ?_))
  refine GN.of (g_iload_n hC40 0 173 rfl dX6_init_172 rfl rfl (GN.to ?_))
  refine GN.of (g_iconst hC40 174 dX6_init_173 rfl (GN.to ?_))
  refine n_iast hC40 (by decide) 175 rfl (by decide) dX6_init_174 rfl ?_
  refine GN.of (g_iinc hC40 0 178 [(1, .int (fI 10)), (0, .ref (ad39 0))] rfl dX6_init_175 (by decide) rfl rfl (GN.to ?_))
  refine GN.of (g_goto hC40 162 dX6_init_178 rfl (GN.to ?_))
  refine GN.of (g_iload_n hC40 0 163 rfl dX6_init_162 rfl rfl (GN.to ?_))
  refine GN.of (g_bipush hC40 165 dX6_init_163 rfl (by decide +kernel) (GN.to ?_))
  refine n_ge_f hC40 181 168 (by decide) (by decide) dX6_init_165 rfl rfl ?_
  refine GN.of (g_aload_n hC40 1 169 rfl dX6_init_168 rfl rfl (GN.to ?_))
  refine GN.of (g_getA hC40 172 inX6 rfl 11 (by decide) gw_538 rfl rfl rfl dX6_init_169 rfl (GN.to ?_))
  refine GN.of (g_iload_n hC40 0 173 rfl dX6_init_172 rfl rfl (GN.to ?_))
  refine GN.of (g_iconst hC40 174 dX6_init_173 rfl (GN.to ?_))
  refine n_iast hC40 (by decide) 175 rfl (by decide) dX6_init_174 rfl ?_
  refine GN.of (g_iinc hC40 0 178 [(1, .int (fI 11)), (0, .ref (ad39 0))] rfl dX6_init_175 (by decide) rfl rfl (GN.to ?_))
  refine GN.of (g_goto hC40 162 dX6_init_178 rfl (GN.to ?_))
  refine GN.of (g_iload_n hC40 0 163 rfl dX6_init_162 rfl rfl (GN.to ?_))
  refine GN.of (g_bipush hC40 165 dX6_init_163 rfl (by decide +kernel) (GN.to ?_))
  refine n_ge_f hC40 181 168 (by decide) (by decide) dX6_init_165 rfl rfl ?_
  refine GN.of (g_aload_n hC40 1 169 rfl dX6_init_168 rfl rfl (GN.to ?_))
  refine GN.of (g_getA hC40 172 inX6 rfl 11 (by decide) gw_538 rfl rfl rfl dX6_init_169 rfl (GN.to ?_))
  refine GN.of (g_iload_n hC40 0 173 rfl dX6_init_172 rfl rfl (GN.to ?_))
  refine GN.of (g_iconst hC40 174 dX6_init_173 rfl (GN.to ?_))
  refine n_iast hC40 (by decide) 175 rfl (by decide) dX6_init_174 rfl ?_
  refine GN.of (g_iinc hC40 0 178 [(1, .int (fI 12)), (0, .ref (ad39 0))] rfl dX6_init_175 (by decide) rfl rfl (GN.to ?_))
  refine GN.of (g_goto hC40 162 dX6_init_178 rfl (GN.to ?_))
  refine GN.of (g_iload_n hC40 0 163 rfl dX6_init_162 rfl rfl (GN.to ?_))
  refine GN.of (g_bipush hC40 165 dX6_init_163 rfl (by decide +kernel) (GN.to ?_))
  refine n_ge_f hC40 181 168 (by decide) (by decide) dX6_init_165 rfl rfl ?_
  refine GN.of (g_aload_n hC40 1 169 rfl dX6_init_168 rfl rfl (GN.to ?_))
  refine GN.of (g_getA hC40 172 inX6 rfl 11 (by decide) gw_538 rfl rfl rfl dX6_init_169 rfl (GN.to ?_))
  refine GN.of (g_iload_n hC40 0 173 rfl dX6_init_172 rfl rfl (GN.to ?_))
  refine GN.of (g_iconst hC40 174 dX6_init_173 rfl (GN.to ?_))
  refine n_iast hC40 (by decide) 175 rfl (by decide) dX6_init_174 rfl ?_
  refine GN.of (g_iinc hC40 0 178 [(1, .int (fI 13)), (0, .ref (ad39 0))] rfl dX6_init_175 (by decide) rfl rfl (GN.to ?_))
  refine GN.of (g_goto hC40 162 dX6_init_178 rfl (GN.to ?_))
  refine GN.of (g_iload_n hC40 0 163 rfl dX6_init_162 rfl rfl (GN.to ?_))
  refine GN.of (g_bipush hC40 165 dX6_init_163 rfl (by decide +kernel) (GN.to ?_))
  refine n_ge_f hC40 181 168 (by decide) (by decide) dX6_init_165 rfl rfl ?_
  refine GN.of (g_aload_n hC40 1 169 rfl dX6_init_168 rfl rfl (GN.to ?_))
  refine GN.of (g_getA hC40 172 inX6 rfl 11 (by decide) gw_538 rfl rfl rfl dX6_init_169 rfl (GN.to ?_))
  refine GN.of (g_iload_n hC40 0 173 rfl dX6_init_172 rfl rfl (GN.to ?_))
  refine GN.of (g_iconst hC40 174 dX6_init_173 rfl (GN.to ?_))
  refine n_iast hC40 (by decide) 175 rfl (by decide) dX6_init_174 rfl ?_
  refine GN.of (g_iinc hC40 0 178 [(1, .int (fI 14)), (0, .ref (ad39 0))] rfl dX6_init_175 (by decide) rfl rfl (GN.to ?_))
  refine GN.of (g_goto hC40 162 dX6_init_178 rfl (GN.to ?_))
  refine GN.of (g_iload_n hC40 0 163 rfl dX6_init_162 rfl rfl (GN.to ?_))
  refine GN.of (g_bipush hC40 165 dX6_init_163 rfl (by decide +kernel) (GN.to ?_))
  refine n_ge_f hC40 181 168 (by decide) (by decide) dX6_init_165 rfl rfl ?_
  refine GN.of (g_aload_n hC40 1 169 rfl dX6_init_168 rfl rfl (GN.to ?_))
  refine GN.of (g_getA hC40 172 inX6 rfl 11 (by decide) gw_538 rfl rfl rfl dX6_init_169 rfl (GN.to ?_))
  refine GN.of (g_iload_n hC40 0 173 rfl dX6_init_172 rfl rfl (GN.to ?_))
  refine GN.of (g_iconst hC40 174 dX6_init_173 rfl (GN.to ?_))
  refine n_iast hC40 (by decide) 175 rfl (by decide) dX6_init_174 rfl ?_
  refine GN.of (g_iinc hC40 0 178 [(1, .int (fI 15)), (0, .ref (ad39 0))] rfl dX6_init_175 (by decide) rfl rfl (GN.to ?_))
  refine GN.of (g_goto hC40 162 dX6_init_178 rfl (GN.to ?_))
  refine GN.of (g_iload_n hC40 0 163 rfl dX6_init_162 rfl rfl (GN.to ?_))
  refine GN.of (g_bipush hC40 165 dX6_init_163 rfl (by decide +kernel) (GN.to ?_))
  refine n_ge_f hC40 181 168 (by decide) (by decide) dX6_init_165 rfl rfl ?_
  refine GN.of (g_aload_n hC40 1 169 rfl dX6_init_168 rfl rfl (GN.to ?_))
  refine GN.of (g_getA hC40 172 inX6 rfl 11 (by decide) gw_538 rfl rfl rfl dX6_init_169 rfl (GN.to ?_))
  refine GN.of (g_iload_n hC40 0 173 rfl dX6_init_172 rfl rfl (GN.to ?_))
  refine GN.of (g_iconst hC40 174 dX6_init_173 rfl (GN.to ?_))
  refine n_iast hC40 (by decide) 175 rfl (by decide) dX6_init_174 rfl ?_
  refine GN.of (g_iinc hC40 0 178 [(1, .int (fI 16)), (0, .ref (ad39 0))] rfl dX6_init_175 (by decide) rfl rfl (GN.to ?_))
  refine GN.of (g_goto hC40 162 dX6_init_178 rfl (GN.to ?_))
  refine GN.of (g_iload_n hC40 0 163 rfl dX6_init_162 rfl rfl (GN.to ?_))
  refine GN.of (g_bipush hC40 165 dX6_init_163 rfl (by decide +kernel) (GN.to ?_))
  refine n_ge_f hC40 181 168 (by decide) (by decide) dX6_init_165 rfl rfl ?_
  refine GN.of (g_aload_n hC40 1 169 rfl dX6_init_168 rfl rfl (GN.to ?_))
  refine GN.of (g_getA hC40 172 inX6 rfl 11 (by decide) gw_538 rfl rfl rfl dX6_init_169 rfl (GN.to ?_))
  refine GN.of (g_iload_n hC40 0 173 rfl dX6_init_172 rfl rfl (GN.to ?_))
  refine GN.of (g_iconst hC40 174 dX6_init_173 rfl (GN.to ?_))
  refine n_iast hC40 (by decide) 175 rfl (by decide) dX6_init_174 rfl ?_
  refine GN.of (g_iinc hC40 0 178 [(1, .int (fI 17)), (0, .ref (ad39 0))] rfl dX6_init_175 (by decide) rfl rfl (GN.to ?_))
  refine GN.of (g_goto hC40 162 dX6_init_178 rfl (GN.to ?_))
  refine GN.of (g_iload_n hC40 0 163 rfl dX6_init_162 rfl rfl (GN.to ?_))
  refine GN.of (g_bipush hC40 165 dX6_init_163 rfl (by decide +kernel) (GN.to ?_))
  refine n_ge_f hC40 181 168 (by decide) (by decide) dX6_init_165 rfl rfl ?_
  refine GN.of (g_aload_n hC40 1 169 rfl dX6_init_168 rfl rfl (GN.to ?_))
  refine GN.of (g_getA hC40 172 inX6 rfl 11 (by decide) gw_538 rfl rfl rfl dX6_init_169 rfl (GN.to ?_))
  refine GN.of (g_iload_n hC40 0 173 rfl dX6_init_172 rfl rfl (GN.to ?_))
  refine GN.of (g_iconst hC40 174 dX6_init_173 rfl (GN.to ?_))
  refine n_iast hC40 (by decide) 175 rfl (by decide) dX6_init_174 rfl ?_
  refine GN.of (g_iinc hC40 0 178 [(1, .int (fI 18)), (0, .ref (ad39 0))] rfl dX6_init_175 (by decide) rfl rfl (GN.to ?_))
  refine GN.of (g_goto hC40 162 dX6_init_178 rfl (GN.to ?_))
  refine GN.of (g_iload_n hC40 0 163 rfl dX6_init_162 rfl rfl (GN.to ?_))
  refine GN.of (g_bipush hC40 165 dX6_init_163 rfl (by decide +kernel) (GN.to ?_))
  refine n_ge_f hC40 181 168 (by decide) (by decide) dX6_init_165 rfl rfl ?_
  refine GN.of (g_aload_n hC40 1 169 rfl dX6_init_168 rfl rfl (GN.to ?_))
  refine GN.of (g_getA hC40 172 inX6 rfl 11 (by decide) gw_538 rfl rfl rfl dX6_init_169 rfl (GN.to ?_))
  refine GN.of (g_iload_n hC40 0 173 rfl dX6_init_172 rfl rfl (GN.to ?_))
  refine GN.of (g_iconst hC40 174 dX6_init_173 rfl (GN.to ?_))
  refine n_iast hC40 (by decide) 175 rfl (by decide) dX6_init_174 rfl ?_
  refine GN.of (g_iinc hC40 0 178 [(1, .int (fI 19)), (0, .ref (ad39 0))] rfl dX6_init_175 (by decide) rfl rfl (GN.to ?_))
  refine GN.of (g_goto hC40 162 dX6_init_178 rfl (GN.to ?_))
  refine GN.of (g_iload_n hC40 0 163 rfl dX6_init_162 rfl rfl (GN.to ?_))
  refine GN.of (g_bipush hC40 165 dX6_init_163 rfl (by decide +kernel) (GN.to ?_))
  refine n_ge_f hC40 181 168 (by decide) (by decide) dX6_init_165 rfl rfl ?_
  refine GN.of (g_aload_n hC40 1 169 rfl dX6_init_168 rfl rfl (GN.to ?_))
  refine GN.of (g_getA hC40 172 inX6 rfl 11 (by decide) gw_538 rfl rfl rfl dX6_init_169 rfl (GN.to ?_))
  refine GN.of (g_iload_n hC40 0 173 rfl dX6_init_172 rfl rfl (GN.to ?_))
  refine GN.of (g_iconst hC40 174 dX6_init_173 rfl (GN.to ?_))
  refine n_iast hC40 (by decide) 175 rfl (by decide) dX6_init_174 rfl ?_
  refine GN.of (g_iinc hC40 0 178 [(1, .int (fI 20)), (0, .ref (ad39 0))] rfl dX6_init_175 (by decide) rfl rfl (GN.to ?_))
  refine GN.of (g_goto hC40 162 dX6_init_178 rfl (GN.to ?_))
  refine GN.of (g_iload_n hC40 0 163 rfl dX6_init_162 rfl rfl (GN.to ?_))
  refine GN.of (g_bipush hC40 165 dX6_init_163 rfl (by decide +kernel) (GN.to ?_))
  refine n_ge_t hC40 181 168 (by decide) (by decide) dX6_init_165 rfl rfl ?_
  refine GN.of (g_iconst hC40 182 dX6_init_181 rfl (GN.to ?_))
  refine GN.of (g_istore_n hC40 183 [(1, .int (fI 0)), (0, .ref (ad39 0))] dX6_init_182 rfl (by decide) rfl rfl (GN.to ?_))
  refine GN.of (g_iload_n hC40 0 184 rfl dX6_init_183 rfl rfl (GN.to ?_))
  refine GN.of (g_iconst hC40 185 dX6_init_184 rfl (GN.to ?_))
  refine n_ge_f hC40 201 188 (by decide) (by decide) dX6_init_185 rfl rfl ?_
  refine GN.of (g_aload_n hC40 1 189 rfl dX6_init_188 rfl rfl (GN.to ?_))
  refine GN.of (g_getA hC40 192 inX6 rfl 8 (by decide) gw_535 rfl rfl rfl dX6_init_189 rfl (GN.to ?_))
  refine GN.of (g_iload_n hC40 0 193 rfl dX6_init_192 rfl rfl (GN.to ?_))
  refine GN.of (g_iconst hC40 194 dX6_init_193 rfl (GN.to ?_))
  refine n_iast hC40 (by decide) 195 rfl (by decide) dX6_init_194 rfl ?_
  refine GN.of (g_iinc hC40 0 198 [(1, .int (fI 1)), (0, .ref (ad39 0))] rfl dX6_init_195 (by decide) rfl rfl (GN.to ?_))
  refine GN.of (g_goto hC40 183 dX6_init_198 rfl (GN.to ?_))
  refine GN.of (g_iload_n hC40 0 184 rfl dX6_init_183 rfl rfl (GN.to ?_))
  refine GN.of (g_iconst hC40 185 dX6_init_184 rfl (GN.to ?_))
  refine n_ge_f hC40 201 188 (by decide) (by decide) dX6_init_185 rfl rfl ?_
  refine GN.of (g_aload_n hC40 1 189 rfl dX6_init_188 rfl rfl (GN.to ?_))
  refine GN.of (g_getA hC40 192 inX6 rfl 8 (by decide) gw_535 rfl rfl rfl dX6_init_189 rfl (GN.to ?_))
  refine GN.of (g_iload_n hC40 0 193 rfl dX6_init_192 rfl rfl (GN.to ?_))
  refine GN.of (g_iconst hC40 194 dX6_init_193 rfl (GN.to ?_))
  refine n_iast hC40 (by decide) 195 rfl (by decide) dX6_init_194 rfl ?_
  refine GN.of (g_iinc hC40 0 198 [(1, .int (fI 2)), (0, .ref (ad39 0))] rfl dX6_init_195 (by decide) rfl rfl (GN.to ?_))
  refine GN.of (g_goto hC40 183 dX6_init_198 rfl (GN.to ?_))
  refine GN.of (g_iload_n hC40 0 184 rfl dX6_init_183 rfl rfl (GN.to ?_))
  refine GN.of (g_iconst hC40 185 dX6_init_184 rfl (GN.to ?_))
  refine n_ge_f hC40 201 188 (by decide) (by decide) dX6_init_185 rfl rfl ?_
  refine GN.of (g_aload_n hC40 1 189 rfl dX6_init_188 rfl rfl (GN.to ?_))
  refine GN.of (g_getA hC40 192 inX6 rfl 8 (by decide) gw_535 rfl rfl rfl dX6_init_189 rfl (GN.to ?_))
  refine GN.of (g_iload_n hC40 0 193 rfl dX6_init_192 rfl rfl (GN.to ?_))
  refine GN.of (g_iconst hC40 194 dX6_init_193 rfl (GN.to ?_))
  refine n_iast hC40 (by decide) 195 rfl (by decide) dX6_init_194 rfl ?_
  refine GN.of (g_iinc hC40 0 198 [(1, .int (fI 3)), (0, .ref (ad39 0))] rfl dX6_init_195 (by decide) rfl rfl (GN.to ?_))
  refine GN.of (g_goto hC40 183 dX6_init_198 rfl (GN.to ?_))
  refine GN.of (g_iload_n hC40 0 184 rfl dX6_init_183 rfl rfl (GN.to ?_))
  refine GN.of (g_iconst hC40 185 dX6_init_184 rfl (GN.to ?_))
  refine n_ge_f hC40 201 188 (by decide) (by decide) dX6_init_185 rfl rfl ?_
  refine GN.of (g_aload_n hC40 1 189 rfl dX6_init_188 rfl rfl (GN.to ?_))
  refine GN.of (g_getA hC40 192 inX6 rfl 8 (by decide) gw_535 rfl rfl rfl dX6_init_189 rfl (GN.to ?_))
  refine GN.of (g_iload_n hC40 0 193 rfl dX6_init_192 rfl rfl (GN.to ?_))
  refine GN.of (g_iconst hC40 194 dX6_init_193 rfl (GN.to ?_))
  refine n_iast hC40 (by decide) 195 rfl (by decide) dX6_init_194 rfl ?_
  refine GN.of (g_iinc hC40 0 198 [(1, .int (fI 4)), (0, .ref (ad39 0))] rfl dX6_init_195 (by decide) rfl rfl (GN.to ?_))
  refine GN.of (g_goto hC40 183 dX6_init_198 rfl (GN.to ?_))
  refine GN.of (g_iload_n hC40 0 184 rfl dX6_init_183 rfl rfl (GN.to ?_))
  refine GN.of (g_iconst hC40 185 dX6_init_184 rfl (GN.to ?_))
  refine n_ge_t hC40 201 188 (by decide) (by decide) dX6_init_185 rfl rfl ?_
  refine GN.of (g_iconst hC40 202 dX6_init_201 rfl (GN.to ?_))
  refine GN.of (g_istore_n hC40 203 [(1, .int (fI 0)), (0, .ref (ad39 0))] dX6_init_202 rfl (by decide) rfl rfl (GN.to ?_))
  refine GN.of (g_iload_n hC40 0 204 rfl dX6_init_203 rfl rfl (GN.to ?_))
  refine GN.of (g_bipush hC40 206 dX6_init_204 rfl (by decide +kernel) (GN.to ?_))
  refine n_ge_f hC40 229 209 (by decide) (by decide) dX6_init_206 rfl rfl ?_
  refine GN.of (g_aload_n hC40 1 210 rfl dX6_init_209 rfl rfl (GN.to ?_))
  refine GN.of (g_getA hC40 213 inX6 rfl 12 (by decide) gw_539 rfl rfl rfl dX6_init_210 rfl (GN.to ?_))
  refine GN.of (g_iload_n hC40 0 214 rfl dX6_init_213 rfl rfl (GN.to ?_))
  refine GN.of (g_iconst hC40 215 dX6_init_214 rfl (GN.to ?_))
  refine n_iast hC40 (by decide) 216 rfl (by decide) dX6_init_215 rfl ?_
  refine GN.of (g_aload_n hC40 1 217 rfl dX6_init_216 rfl rfl (GN.to ?_))
  refine GN.of (g_getA hC40 220 inX6 rfl 15 (by decide) gw_542 rfl rfl rfl dX6_init_217 rfl (GN.to ?_))
  refine GN.of (g_iload_n hC40 0 221 rfl dX6_init_220 rfl rfl (GN.to ?_))
  refine GN.of (g_iconst hC40 222 dX6_init_221 rfl (GN.to ?_))
  refine n_iast hC40 (by decide) 223 rfl (by decide) dX6_init_222 rfl ?_
  refine GN.of (g_iinc hC40 0 226 [(1, .int (fI 1)), (0, .ref (ad39 0))] rfl dX6_init_223 (by decide) rfl rfl (GN.to ?_))
  refine GN.of (g_goto hC40 203 dX6_init_226 rfl (GN.to ?_))
  refine GN.of (g_iload_n hC40 0 204 rfl dX6_init_203 rfl rfl (GN.to ?_))
  refine GN.of (g_bipush hC40 206 dX6_init_204 rfl (by decide +kernel) (GN.to ?_))
  refine n_ge_f hC40 229 209 (by decide) (by decide) dX6_init_206 rfl rfl ?_
  refine GN.of (g_aload_n hC40 1 210 rfl dX6_init_209 rfl rfl (GN.to ?_))
  refine GN.of (g_getA hC40 213 inX6 rfl 12 (by decide) gw_539 rfl rfl rfl dX6_init_210 rfl (GN.to ?_))
  refine GN.of (g_iload_n hC40 0 214 rfl dX6_init_213 rfl rfl (GN.to ?_))
  refine GN.of (g_iconst hC40 215 dX6_init_214 rfl (GN.to ?_))
  refine n_iast hC40 (by decide) 216 rfl (by decide) dX6_init_215 rfl ?_
  refine GN.of (g_aload_n hC40 1 217 rfl dX6_init_216 rfl rfl (GN.to ?_))
  refine GN.of (g_getA hC40 220 inX6 rfl 15 (by decide) gw_542 rfl rfl rfl dX6_init_217 rfl (GN.to ?_))
  refine GN.of (g_iload_n hC40 0 221 rfl dX6_init_220 rfl rfl (GN.to ?_))
  refine GN.of (g_iconst hC40 222 dX6_init_221 rfl (GN.to ?_))
  refine n_iast hC40 (by decide) 223 rfl (by decide) dX6_init_222 rfl ?_
  refine GN.of (g_iinc hC40 0 226 [(1, .int (fI 2)), (0, .ref (ad39 0))] rfl dX6_init_223 (by decide) rfl rfl (GN.to ?_))
  refine GN.of (g_goto hC40 203 dX6_init_226 rfl (GN.to ?_))
  refine GN.of (g_iload_n hC40 0 204 rfl dX6_init_203 rfl rfl (GN.to ?_))
  refine GN.of (g_bipush hC40 206 dX6_init_204 rfl (by decide +kernel) (GN.to ?_))
  refine n_ge_f hC40 229 209 (by decide) (by decide) dX6_init_206 rfl rfl ?_
  refine GN.of (g_aload_n hC40 1 210 rfl dX6_init_209 rfl rfl (GN.to ?_))
  refine GN.of (g_getA hC40 213 inX6 rfl 12 (by decide) gw_539 rfl rfl rfl dX6_init_210 rfl (GN.to ?_))
  refine GN.of (g_iload_n hC40 0 214 rfl dX6_init_213 rfl rfl (GN.to ?_))
  refine GN.of (g_iconst hC40 215 dX6_init_214 rfl (GN.to ?_))
  refine n_iast hC40 (by decide) 216 rfl (by decide) dX6_init_215 rfl ?_
  refine GN.of (g_aload_n hC40 1 217 rfl dX6_init_216 rfl rfl (GN.to ?_))
  refine GN.of (g_getA hC40 220 inX6 rfl 15 (by decide) gw_542 rfl rfl rfl dX6_init_217 rfl (GN.to ?_))
  refine GN.of (g_iload_n hC40 0 221 rfl dX6_init_220 rfl rfl (GN.to ?_))
  refine GN.of (g_iconst hC40 222 dX6_init_221 rfl (GN.to ?_))
  refine n_iast hC40 (by decide) 223 rfl (by decide) dX6_init_222 rfl ?_
  refine GN.of (g_iinc hC40 0 226 [(1, .int (fI 3)), (0, .ref (ad39 0))] rfl dX6_init_223 (by decide) rfl rfl (GN.to ?_))
  refine GN.of (g_goto hC40 203 dX6_init_226 rfl (GN.to ?_))
  refine GN.of (g_iload_n hC40 0 204 rfl dX6_init_203 rfl rfl (GN.to ?_))
  refine GN.of (g_bipush hC40 206 dX6_init_204 rfl (by decide +kernel) (GN.to ?_))
  refine n_ge_f hC40 229 209 (by decide) (by decide) dX6_init_206 rfl rfl ?_
  refine GN.of (g_aload_n hC40 1 210 rfl dX6_init_209 rfl rfl (GN.to ?_))
  refine GN.of (g_getA hC40 213 inX6 rfl 12 (by decide) gw_539 rfl rfl rfl dX6_init_210 rfl (GN.to ?_))
  refine GN.of (g_iload_n hC40 0 214 rfl dX6_init_213 rfl rfl (GN.to ?_))
  refine GN.of (g_iconst hC40 215 dX6_init_214 rfl (GN.to ?_))
  refine n_iast hC40 (by decide) 216 rfl (by decide) dX6_init_215 rfl ?_
  refine GN.of (g_aload_n hC40 1 217 rfl dX6_init_216 rfl rfl (GN.to ?_))
  refine GN.of (g_getA hC40 220 inX6 rfl 15 (by decide) gw_542 rfl rfl rfl dX6_init_217 rfl (GN.to ?_))
  refine GN.of (g_iload_n hC40 0 221 rfl dX6_init_220 rfl rfl (GN.to ?_))
  refine GN.of (g_iconst hC40 222 dX6_init_221 rfl (GN.to ?_))
  refine n_iast hC40 (by decide) 223 rfl (by decide) dX6_init_222 rfl ?_
  refine GN.of (g_iinc hC40 0 226 [(1, .int (fI 4)), (0, .ref (ad39 0))] rfl dX6_init_223 (by decide) rfl rfl (GN.to ?_))
  refine GN.of (g_goto hC40 203 dX6_init_226 rfl (GN.to ?_))
  refine GN.of (g_iload_n hC40 0 204 rfl dX6_init_203 rfl rfl (GN.to ?_))
  refine GN.of (g_bipush hC40 206 dX6_init_204 rfl (by decide +kernel) (GN.to ?_))
  refine n_ge_f hC40 229 209 (by decide) (by decide) dX6_init_206 rfl rfl ?_
  refine GN.of (g_aload_n hC40 1 210 rfl dX6_init_209 rfl rfl (GN.to ?_))
  refine GN.of (g_getA hC40 213 inX6 rfl 12 (by decide) gw_539 rfl rfl rfl dX6_init_210 rfl (GN.to ?_))
  refine GN.of (g_iload_n hC40 0 214 rfl dX6_init_213 rfl rfl (GN.to ?_))
  refine GN.of (g_iconst hC40 215 dX6_init_214 rfl (GN.to ?_))
  refine n_iast hC40 (by decide) 216 rfl (by decide) dX6_init_215 rfl ?_
  refine GN.of (g_aload_n hC40 1 217 rfl dX6_init_216 rfl rfl (GN.to ?_))
  refine GN.of (g_getA hC40 220 inX6 rfl 15 (by decide) gw_542 rfl rfl rfl dX6_init_217 rfl (GN.to ?_))
  refine GN.of (g_iload_n hC40 0 221 rfl dX6_init_220 rfl rfl (GN.to ?_))
  refine GN.of (g_iconst hC40 222 dX6_init_221 rfl (GN.to ?_))
  refine n_iast hC40 (by decide) 223 rfl (by decide) dX6_init_222 rfl ?_
  refine GN.of (g_iinc hC40 0 226 [(1, .int (fI 5)), (0, .ref (ad39 0))] rfl dX6_init_223 (by decide) rfl rfl (GN.to ?_))
  refine GN.of (g_goto hC40 203 dX6_init_226 rfl (GN.to ?_))
  refine GN.of (g_iload_n hC40 0 204 rfl dX6_init_203 rfl rfl (GN.to ?_))
  refine GN.of (g_bipush hC40 206 dX6_init_204 rfl (by decide +kernel) (GN.to ?_))
  refine n_ge_f hC40 229 209 (by decide) (by decide) dX6_init_206 rfl rfl ?_
  refine GN.of (g_aload_n hC40 1 210 rfl dX6_init_209 rfl rfl (GN.to ?_))
  refine GN.of (g_getA hC40 213 inX6 rfl 12 (by decide) gw_539 rfl rfl rfl dX6_init_210 rfl (GN.to ?_))
  refine GN.of (g_iload_n hC40 0 214 rfl dX6_init_213 rfl rfl (GN.to ?_))
  refine GN.of (g_iconst hC40 215 dX6_init_214 rfl (GN.to ?_))
  refine n_iast hC40 (by decide) 216 rfl (by decide) dX6_init_215 rfl ?_
  refine GN.of (g_aload_n hC40 1 217 rfl dX6_init_216 rfl rfl (GN.to ?_))
  refine GN.of (g_getA hC40 220 inX6 rfl 15 (by decide) gw_542 rfl rfl rfl dX6_init_217 rfl (GN.to ?_))
  refine GN.of (g_iload_n hC40 0 221 rfl dX6_init_220 rfl rfl (GN.to ?_))
  refine GN.of (g_iconst hC40 222 dX6_init_221 rfl (GN.to ?_))
  refine n_iast hC40 (by decide) 223 rfl (by decide) dX6_init_222 rfl ?_
  refine GN.of (g_iinc hC40 0 226 [(1, .int (fI 6)), (0, .ref (ad39 0))] rfl dX6_init_223 (by decide) rfl rfl (GN.to ?_))
  refine GN.of (g_goto hC40 203 dX6_init_226 rfl (GN.to ?_))
  refine GN.of (g_iload_n hC40 0 204 rfl dX6_init_203 rfl rfl (GN.to ?_))
  refine GN.of (g_bipush hC40 206 dX6_init_204 rfl (by decide +kernel) (GN.to ?_))
  refine n_ge_f hC40 229 209 (by decide) (by decide) dX6_init_206 rfl rfl ?_
  refine GN.of (g_aload_n hC40 1 210 rfl dX6_init_209 rfl rfl (GN.to ?_))
  refine GN.of (g_getA hC40 213 inX6 rfl 12 (by decide) gw_539 rfl rfl rfl dX6_init_210 rfl (GN.to ?_))
  refine GN.of (g_iload_n hC40 0 214 rfl dX6_init_213 rfl rfl (GN.to ?_))
  refine GN.of (g_iconst hC40 215 dX6_init_214 rfl (GN.to ?_))
  refine n_iast hC40 (by decide) 216 rfl (by decide) dX6_init_215 rfl ?_
  refine GN.of (g_aload_n hC40 1 217 rfl dX6_init_216 rfl rfl (GN.to ?_))
  refine GN.of (g_getA hC40 220 inX6 rfl 15 (by decide) gw_542 rfl rfl rfl dX6_init_217 rfl (GN.to ?_))
  refine GN.of (g_iload_n hC40 0 221 rfl dX6_init_220 rfl rfl (GN.to ?_))
  refine GN.of (g_iconst hC40 222 dX6_init_221 rfl (GN.to ?_))
  refine n_iast hC40 (by decide) 223 rfl (by decide) dX6_init_222 rfl ?_
  refine GN.of (g_iinc hC40 0 226 [(1, .int (fI 7)), (0, .ref (ad39 0))] rfl dX6_init_223 (by decide) rfl rfl (GN.to ?_))
  refine GN.of (g_goto hC40 203 dX6_init_226 rfl (GN.to ?_))
  refine GN.of (g_iload_n hC40 0 204 rfl dX6_init_203 rfl rfl (GN.to ?_))
  refine GN.of (g_bipush hC40 206 dX6_init_204 rfl (by decide +kernel) (GN.to ?_))
  refine n_ge_f hC40 229 209 (by decide) (by decide) dX6_init_206 rfl rfl ?_
  refine GN.of (g_aload_n hC40 1 210 rfl dX6_init_209 rfl rfl (GN.to ?_))
  refine GN.of (g_getA hC40 213 inX6 rfl 12 (by decide) gw_539 rfl rfl rfl dX6_init_210 rfl (GN.to ?_))
  refine GN.of (g_iload_n hC40 0 214 rfl dX6_init_213 rfl rfl (GN.to ?_))
  refine GN.of (g_iconst hC40 215 dX6_init_214 rfl (GN.to ?_))
  refine n_iast hC40 (by decide) 216 rfl (by decide) dX6_init_215 rfl ?_
  refine GN.of (g_aload_n hC40 1 217 rfl dX6_init_216 rfl rfl (GN.to ?_))
  refine GN.of (g_getA hC40 220 inX6 rfl 15 (by decide) gw_542 rfl rfl rfl dX6_init_217 rfl (GN.to ?_))
  refine GN.of (g_iload_n hC40 0 221 rfl dX6_init_220 rfl rfl (GN.to ?_))
  refine GN.of (g_iconst hC40 222 dX6_init_221 rfl (GN.to ?_))
  refine n_iast hC40 (by decide) 223 rfl (by decide) dX6_init_222 rfl ?_
  refine GN.of (g_iinc hC40 0 226 [(1, .int (fI 8)), (0, .ref (ad39 0))] rfl dX6_init_223 (by decide) rfl rfl (GN.to ?_))
  refine GN.of (g_goto hC40 203 dX6_init_226 rfl (GN.to ?_))
  refine GN.of (g_iload_n hC40 0 204 rfl dX6_init_203 rfl rfl (GN.to ?_))
  refine GN.of (g_bipush hC40 206 dX6_init_204 rfl (by decide +kernel) (GN.to ?_))
  refine n_ge_f hC40 229 209 (by decide) (by decide) dX6_init_206 rfl rfl ?_
  refine GN.of (g_aload_n hC40 1 210 rfl dX6_init_209 rfl rfl (GN.to ?_))
  refine GN.of (g_getA hC40 213 inX6 rfl 12 (by decide) gw_539 rfl rfl rfl dX6_init_210 rfl (GN.to ?_))
  refine GN.of (g_iload_n hC40 0 214 rfl dX6_init_213 rfl rfl (GN.to ?_))
  refine GN.of (g_iconst hC40 215 dX6_init_214 rfl (GN.to ?_))
  refine n_iast hC40 (by decide) 216 rfl (by decide) dX6_init_215 rfl ?_
  refine GN.of (g_aload_n hC40 1 217 rfl dX6_init_216 rfl rfl (GN.to ?_))
  refine GN.of (g_getA hC40 220 inX6 rfl 15 (by decide) gw_542 rfl rfl rfl dX6_init_217 rfl (GN.to ?_))
  refine GN.of (g_iload_n hC40 0 221 rfl dX6_init_220 rfl rfl (GN.to ?_))
  refine GN.of (g_iconst hC40 222 dX6_init_221 rfl (GN.to ?_))
  refine n_iast hC40 (by decide) 223 rfl (by decide) dX6_init_222 rfl ?_
  refine GN.of (g_iinc hC40 0 226 [(1, .int (fI 9)), (0, .ref (ad39 0))] rfl dX6_init_223 (by decide) rfl rfl (GN.to ?_))
  refine GN.of (g_goto hC40 203 dX6_init_226 rfl (GN.to ?_))
  refine GN.of (g_iload_n hC40 0 204 rfl dX6_init_203 rfl rfl (GN.to ?_))
  refine GN.of (g_bipush hC40 206 dX6_init_204 rfl (by decide +kernel) (GN.to ?_))
  refine n_ge_f hC40 229 209 (by decide) (by decide) dX6_init_206 rfl rfl ?_
  refine GN.of (g_aload_n hC40 1 210 rfl dX6_init_209 rfl rfl (GN.to ?_))
  refine GN.of (g_getA hC40 213 inX6 rfl 12 (by decide) gw_539 rfl rfl rfl dX6_init_210 rfl (GN.to ?_))
  refine GN.of (g_iload_n hC40 0 214 rfl dX6_init_213 rfl rfl (GN.to ?_))
  refine GN.of (g_iconst hC40 215 dX6_init_214 rfl (GN.to ?_))
  refine n_iast hC40 (by decide) 216 rfl (by decide) dX6_init_215 rfl ?_
  refine GN.of (g_aload_n hC40 1 217 rfl dX6_init_216 rfl rfl (GN.to ?_))
  refine GN.of (g_getA hC40 220 inX6 rfl 15 (by decide) gw_542 rfl rfl rfl dX6_init_217 rfl (GN.to ?_))
  refine GN.of (g_iload_n hC40 0 221 rfl dX6_init_220 rfl rfl (GN.to ?_))
  refine GN.of (g_iconst hC40 222 dX6_init_221 rfl (GN.to ?_))
  refine n_iast hC40 (by decide) 223 rfl (by decide) dX6_init_222 rfl ?_
  refine GN.of (g_iinc hC40 0 226 [(1, .int (fI 10)), (0, .ref (ad39 0))] rfl dX6_init_223 (by decide) rfl rfl (GN.to ?_))
  refine GN.of (g_goto hC40 203 dX6_init_226 rfl (GN.to ?_))
  refine GN.of (g_iload_n hC40 0 204 rfl dX6_init_203 rfl rfl (GN.to ?_))
  refine GN.of (g_bipush hC40 206 dX6_init_204 rfl (by decide +kernel) (GN.to ?_))
  refine n_ge_f hC40 229 209 (by decide) (by decide) dX6_init_206 rfl rfl ?_
  refine GN.of (g_aload_n hC40 1 210 rfl dX6_init_209 rfl rfl (GN.to ?_))
  refine GN.of (g_getA hC40 213 inX6 rfl 12 (by decide) gw_539 rfl rfl rfl dX6_init_210 rfl (GN.to ?_))
  refine GN.of (g_iload_n hC40 0 214 rfl dX6_init_213 rfl rfl (GN.to ?_))
  refine GN.of (g_iconst hC40 215 dX6_init_214 rfl (GN.to ?_))
  refine n_iast hC40 (by decide) 216 rfl (by decide) dX6_init_215 rfl ?_
  refine GN.of (g_aload_n hC40 1 217 rfl dX6_init_216 rfl rfl (GN.to ?_))
  refine GN.of (g_getA hC40 220 inX6 rfl 15 (by decide) gw_542 rfl rfl rfl dX6_init_217 rfl (GN.to ?_))
  refine GN.of (g_iload_n hC40 0 221 rfl dX6_init_220 rfl rfl (GN.to ?_))
  refine GN.of (g_iconst hC40 222 dX6_init_221 rfl (GN.to ?_))
  refine n_iast hC40 (by decide) 223 rfl (by decide) dX6_init_222 rfl ?_
  refine GN.of (g_iinc hC40 0 226 [(1, .int (fI 11)), (0, .ref (ad39 0))] rfl dX6_init_223 (by decide) rfl rfl (GN.to ?_))
  refine GN.of (g_goto hC40 203 dX6_init_226 rfl (GN.to ?_))
  refine GN.of (g_iload_n hC40 0 204 rfl dX6_init_203 rfl rfl (GN.to ?_))
  refine GN.of (g_bipush hC40 206 dX6_init_204 rfl (by decide +kernel) (GN.to ?_))
  refine n_ge_f hC40 229 209 (by decide) (by decide) dX6_init_206 rfl rfl ?_
  refine GN.of (g_aload_n hC40 1 210 rfl dX6_init_209 rfl rfl (GN.to ?_))
  refine GN.of (g_getA hC40 213 inX6 rfl 12 (by decide) gw_539 rfl rfl rfl dX6_init_210 rfl (GN.to ?_))
  refine GN.of (g_iload_n hC40 0 214 rfl dX6_init_213 rfl rfl (GN.to ?_))
  refine GN.of (g_iconst hC40 215 dX6_init_214 rfl (GN.to ?_))
  refine n_iast hC40 (by decide) 216 rfl (by decide) dX6_init_215 rfl ?_
  refine GN.of (g_aload_n hC40 1 217 rfl dX6_init_216 rfl rfl (GN.to ?_))
  refine GN.of (g_getA hC40 220 inX6 rfl 15 (by decide) gw_542 rfl rfl rfl dX6_init_217 rfl (GN.to ?_))
  refine GN.of (g_iload_n hC40 0 221 rfl dX6_init_220 rfl rfl (GN.to ?_))
  refine GN.of (g_iconst hC40 222 dX6_init_221 rfl (GN.to ?_))
  refine n_iast hC40 (by decide) 223 rfl (by decide) dX6_init_222 rfl ?_
  refine GN.of (g_iinc hC40 0 226 [(1, .int (fI 12)), (0, .ref (ad39 0))] rfl dX6_init_223 (by decide) rfl rfl (GN.to ?_))
  refine GN.of (g_goto hC40 203 dX6_init_226 rfl (GN.to ?_))
  refine GN.of (g_iload_n hC40 0 204 rfl dX6_init_203 rfl rfl (GN.to ?_))
  refine GN.of (g_bipush hC40 206 dX6_init_204 rfl (by decide +kernel) (GN.to ?_))
  refine n_ge_t hC40 229 209 (by decide) (by decide) dX6_init_206 rfl rfl ?_
  exact n_ret hC40 hr hk z39 (by decide) rfl dX6_init_229
